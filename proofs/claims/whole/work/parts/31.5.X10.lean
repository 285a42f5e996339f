/-! X10 isReady (R) -/
def DX10_isReady_65 (N : Nat) (f : HF) (k25 : Nat → Int32 → Int32 → Int32 → Option Int32) (v0 : Nat) (v1 : Int32) (v3 : Int32) (s0 : Int32) : Option Int32 :=
    k25 v0 v1 s0 (v3 + 1)

def DX10_isReady_64 (N : Nat) (f : HF) (k25 : Nat → Int32 → Int32 → Int32 → Option Int32) (v0 : Nat) (v1 : Int32) (v3 : Int32) : Option Int32 :=
    DX10_isReady_65 N f k25 v0 v1 v3 (0 : Int32)

def DX10_isReady_60 (N : Nat) (f : HF) (k25 : Nat → Int32 → Int32 → Int32 → Option Int32) (v0 : Nat) (v1 : Int32) (v3 : Int32) : Option Int32 :=
    DX10_isReady_65 N f k25 v0 v1 v3 (1 : Int32)

def DX10_isReady_25 (N : Nat) (f : HF)  (n : Nat) (v0 : Nat) (v1 : Int32) (v2 : Int32) (v3 : Int32) : Option Int32 :=
  match n with
  | 0 => none
  | n + 1 =>
    (gI f v0 9 1).bind fun x3 =>
    if x3 ≤ v3 then
      if v2 = 0 ∨ v2 = 1 then some v2 else none
    else
      if v2 = 0 then
        DX10_isReady_64 N f (DX10_isReady_25 N f n) v0 v1 v3
      else
        (gR f v0 9 23).bind fun x4 =>
        (aI f x4 2 (((40 : Int32) * v1) + v3)).bind fun x5 =>
        if x5 = 0 then
          DX10_isReady_60 N f (DX10_isReady_25 N f n) v0 v1 v3
        else
          (gR f v0 9 24).bind fun x6 =>
          (aI f x6 2 v3).bind fun x7 =>
          if x7 = 0 then
            DX10_isReady_64 N f (DX10_isReady_25 N f n) v0 v1 v3
          else
            DX10_isReady_60 N f (DX10_isReady_25 N f n) v0 v1 v3

def DX10_isReady_22 (N : Nat) (f : HF)  (v0 : Nat) (v1 : Int32) (s0 : Int32) : Option Int32 :=
    DX10_isReady_25 N f N v0 v1 s0 (0 : Int32)

def DX10_isReady_21 (N : Nat) (f : HF)  (v0 : Nat) (v1 : Int32) : Option Int32 :=
    DX10_isReady_22 N f v0 v1 (0 : Int32)

def DX10_isReady (N : Nat) (this : Nat) (p0 : Int32) (f : HF) : Option Int32 :=
  (ck f this 9).bind fun _ =>
  (DX10_isFormula N this p0 f).bind fun x1 =>
  if x1 = 0 then
    DX10_isReady_21 N f this p0
  else
    (gR f this 9 24).bind fun x12 =>
    (aI f x12 2 p0).bind fun x13 =>
    if x13 = 0 then
      DX10_isReady_22 N f this p0 (1 : Int32)
    else
      DX10_isReady_21 N f this p0

set_option maxRecDepth 20000 in
theorem tX10_isReady_65 {l : Launch} {g : GT} {sz : Option Nat} (N : Nat) (f : HF) (k25 : Nat → Int32 → Int32 → Int32 → Option Int32) {r : Int32} (hk25 : ∀ (w0 : Nat) (w1 : Int32) (w2 : Int32) (w3 : Int32), k25 w0 w1 w2 w3 = some r → V l g (fun _ => True) (RX10, cX10_isReady, 4, (Option.some Jvm.ClassFile.FieldType.boolean), [], "isReady") 1 (roI (.inl r) f sz) 25 [(0, .ref w0), (1, .int w1), (2, .int w2), (3, .int w3)] [] f sz 0 0) : ∀ (v0 : Nat) (v1 : Int32) (v3 : Int32) (s0 : Int32), DX10_isReady_65 N f k25 v0 v1 v3 s0 = some r → V l g (fun _ => True) (RX10, cX10_isReady, 4, (Option.some Jvm.ClassFile.FieldType.boolean), [], "isReady") 1 (roI (.inl r) f sz) 65 [(0, .ref v0), (1, .int v1), (3, .int v3)] [.int s0] f sz 0 0 := by
  intro v0 v1 v3 s0 h
  unfold DX10_isReady_65 at h
  refine v_istore_n (ls1 := [(2, .int s0), (0, .ref v0), (1, .int v1), (3, .int v3)]) dX10_isReady_65 rfl (by decide) rfl ?_
  refine v_iinc (v := (v3 + 1)) (ls1 := [(3, .int (v3 + 1)), (2, .int s0), (0, .ref v0), (1, .int v1)]) dX10_isReady_66 rfl rfl (by decide) rfl ?_
  refine v_goto (tgt := 25) dX10_isReady_69 (by decide) ?_
  exact v_sub (vs_c rfl (vs_c rfl (vs_c rfl (vs_c rfl vs_n)))) (hk25 v0 v1 s0 (v3 + 1) h)

set_option maxRecDepth 20000 in
theorem tX10_isReady_64 {l : Launch} {g : GT} {sz : Option Nat} (N : Nat) (f : HF) (k25 : Nat → Int32 → Int32 → Int32 → Option Int32) {r : Int32} (hk25 : ∀ (w0 : Nat) (w1 : Int32) (w2 : Int32) (w3 : Int32), k25 w0 w1 w2 w3 = some r → V l g (fun _ => True) (RX10, cX10_isReady, 4, (Option.some Jvm.ClassFile.FieldType.boolean), [], "isReady") 1 (roI (.inl r) f sz) 25 [(0, .ref w0), (1, .int w1), (2, .int w2), (3, .int w3)] [] f sz 0 0) : ∀ (v0 : Nat) (v1 : Int32) (v3 : Int32), DX10_isReady_64 N f k25 v0 v1 v3 = some r → V l g (fun _ => True) (RX10, cX10_isReady, 4, (Option.some Jvm.ClassFile.FieldType.boolean), [], "isReady") 1 (roI (.inl r) f sz) 64 [(0, .ref v0), (1, .int v1), (3, .int v3)] [] f sz 0 0 := by
  intro v0 v1 v3 h
  unfold DX10_isReady_64 at h
  refine v_iconst (v := 0) dX10_isReady_64 (by decide) ?_
  exact v_sub (vs_c rfl (vs_c rfl (vs_c rfl vs_n))) (tX10_isReady_65 N f k25 hk25 v0 v1 v3 (0 : Int32) h)

set_option maxRecDepth 20000 in
theorem tX10_isReady_60 {l : Launch} {g : GT} {sz : Option Nat} (N : Nat) (f : HF) (k25 : Nat → Int32 → Int32 → Int32 → Option Int32) {r : Int32} (hk25 : ∀ (w0 : Nat) (w1 : Int32) (w2 : Int32) (w3 : Int32), k25 w0 w1 w2 w3 = some r → V l g (fun _ => True) (RX10, cX10_isReady, 4, (Option.some Jvm.ClassFile.FieldType.boolean), [], "isReady") 1 (roI (.inl r) f sz) 25 [(0, .ref w0), (1, .int w1), (2, .int w2), (3, .int w3)] [] f sz 0 0) : ∀ (v0 : Nat) (v1 : Int32) (v3 : Int32), DX10_isReady_60 N f k25 v0 v1 v3 = some r → V l g (fun _ => True) (RX10, cX10_isReady, 4, (Option.some Jvm.ClassFile.FieldType.boolean), [], "isReady") 1 (roI (.inl r) f sz) 60 [(0, .ref v0), (1, .int v1), (3, .int v3)] [] f sz 0 0 := by
  intro v0 v1 v3 h
  unfold DX10_isReady_60 at h
  refine v_iconst (v := 1) dX10_isReady_60 (by decide) ?_
  refine v_goto (tgt := 65) dX10_isReady_61 (by decide) ?_
  exact v_sub (vs_c rfl (vs_c rfl (vs_c rfl vs_n))) (tX10_isReady_65 N f k25 hk25 v0 v1 v3 (1 : Int32) h)

set_option maxRecDepth 20000 in
theorem tX10_isReady_25 {l : Launch} {g : GT} {sz : Option Nat} (N : Nat) (f : HF)  {r : Int32} : ∀ (n : Nat), ∀ (v0 : Nat) (v1 : Int32) (v2 : Int32) (v3 : Int32), DX10_isReady_25 N f n v0 v1 v2 v3 = some r → V l g (fun _ => True) (RX10, cX10_isReady, 4, (Option.some Jvm.ClassFile.FieldType.boolean), [], "isReady") 1 (roI (.inl r) f sz) 25 [(0, .ref v0), (1, .int v1), (2, .int v2), (3, .int v3)] [] f sz 0 0 := by
  intro n
  induction n with
  | zero => intro v0 v1 v2 v3 h; cases h
  | succ n ih =>
    intro v0 v1 v2 v3 h
    rw [DX10_isReady_25] at h
    refine v_iload_n dX10_isReady_25 rfl rfl ?_
    refine v_aload_n dX10_isReady_26 rfl rfl ?_
    obtain ⟨x3, hx3, h⟩ := ob_some h
    refine v_getI dX10_isReady_27 fl_X10_106 hx3 ?_
    refine v_icmp_ge (tgt := 72) dX10_isReady_30 (by decide) (fun c11 => ?_) (fun c11 => ?_)
    · replace h := ip_ c11 h
      refine v_iload_n dX10_isReady_72 rfl rfl ?_
      obtain ⟨hB, h⟩ := if_some h
      obtain rfl := Option.some.inj h
      exact v_zret dX10_isReady_73 rfl hB rfl
    · replace h := in_ c11 h
      refine v_iload_n dX10_isReady_33 rfl rfl ?_
      refine v_if_eq (tgt := 64) dX10_isReady_34 (by decide) (fun c10 => ?_) (fun c10 => ?_)
      · replace h := ip_ c10 h
        exact v_sub (vs_c rfl (vs_c rfl (vs_c rfl vs_n))) (tX10_isReady_64 N f (DX10_isReady_25 N f n) ih v0 v1 v3 h)
      · replace h := in_ c10 h
        refine v_aload_n dX10_isReady_37 rfl rfl ?_
        obtain ⟨x4, hx4, h⟩ := ob_some h
        refine v_getR dX10_isReady_38 fl_X10_75 hx4 ?_
        refine v_bipush (v := 40) dX10_isReady_41 (by decide) ?_
        refine v_iload_n dX10_isReady_43 rfl rfl ?_
        refine v_imul dX10_isReady_44 ?_
        refine v_iload_n dX10_isReady_45 rfl rfl ?_
        refine v_iadd dX10_isReady_46 ?_
        obtain ⟨x5, hx5, h⟩ := ob_some h
        refine v_zald dX10_isReady_47 hx5 ?_
        refine v_if_eq (tgt := 60) dX10_isReady_48 (by decide) (fun c9 => ?_) (fun c9 => ?_)
        · replace h := ip_ c9 h
          exact v_sub (vs_c rfl (vs_c rfl (vs_c rfl vs_n))) (tX10_isReady_60 N f (DX10_isReady_25 N f n) ih v0 v1 v3 h)
        · replace h := in_ c9 h
          refine v_aload_n dX10_isReady_51 rfl rfl ?_
          obtain ⟨x6, hx6, h⟩ := ob_some h
          refine v_getR dX10_isReady_52 fl_X10_78 hx6 ?_
          refine v_iload_n dX10_isReady_55 rfl rfl ?_
          obtain ⟨x7, hx7, h⟩ := ob_some h
          refine v_zald dX10_isReady_56 hx7 ?_
          refine v_if_eq (tgt := 64) dX10_isReady_57 (by decide) (fun c8 => ?_) (fun c8 => ?_)
          · replace h := ip_ c8 h
            exact v_sub (vs_c rfl (vs_c rfl (vs_c rfl vs_n))) (tX10_isReady_64 N f (DX10_isReady_25 N f n) ih v0 v1 v3 h)
          · replace h := in_ c8 h
            exact v_sub (vs_c rfl (vs_c rfl (vs_c rfl vs_n))) (tX10_isReady_60 N f (DX10_isReady_25 N f n) ih v0 v1 v3 h)

set_option maxRecDepth 20000 in
theorem tX10_isReady_22 {l : Launch} {g : GT} {sz : Option Nat} (N : Nat) (f : HF)  {r : Int32} : ∀ (v0 : Nat) (v1 : Int32) (s0 : Int32), DX10_isReady_22 N f v0 v1 s0 = some r → V l g (fun _ => True) (RX10, cX10_isReady, 4, (Option.some Jvm.ClassFile.FieldType.boolean), [], "isReady") 1 (roI (.inl r) f sz) 22 [(0, .ref v0), (1, .int v1)] [.int s0] f sz 0 0 := by
  intro v0 v1 s0 h
  unfold DX10_isReady_22 at h
  refine v_istore_n (ls1 := [(2, .int s0), (0, .ref v0), (1, .int v1)]) dX10_isReady_22 rfl (by decide) rfl ?_
  refine v_iconst (v := 0) dX10_isReady_23 (by decide) ?_
  refine v_istore_n (ls1 := [(3, .int (0 : Int32)), (2, .int s0), (0, .ref v0), (1, .int v1)]) dX10_isReady_24 rfl (by decide) rfl ?_
  exact v_sub (vs_c rfl (vs_c rfl (vs_c rfl (vs_c rfl vs_n)))) (tX10_isReady_25 N f N v0 v1 s0 (0 : Int32) h)

set_option maxRecDepth 20000 in
theorem tX10_isReady_21 {l : Launch} {g : GT} {sz : Option Nat} (N : Nat) (f : HF)  {r : Int32} : ∀ (v0 : Nat) (v1 : Int32), DX10_isReady_21 N f v0 v1 = some r → V l g (fun _ => True) (RX10, cX10_isReady, 4, (Option.some Jvm.ClassFile.FieldType.boolean), [], "isReady") 1 (roI (.inl r) f sz) 21 [(0, .ref v0), (1, .int v1)] [] f sz 0 0 := by
  intro v0 v1 h
  unfold DX10_isReady_21 at h
  refine v_iconst (v := 0) dX10_isReady_21 (by decide) ?_
  exact v_sub (vs_c rfl (vs_c rfl vs_n)) (tX10_isReady_22 N f v0 v1 (0 : Int32) h)

set_option maxRecDepth 20000 in
theorem kX10_isReady (N : Nat) (this : Nat) (p0 : Int32) (f : HF) {r : Int32} (h : DX10_isReady N this p0 f = some r) : ck f this 9 = some () := by
  unfold DX10_isReady at h
  obtain ⟨_, hck, _⟩ := ob_some h
  exact hck

set_option maxRecDepth 20000 in
theorem tX10_isReady {l : Launch} {g : GT} {sz : Option Nat} (N : Nat) (this : Nat) (p0 : Int32) (f : HF) {r : Int32} (h : DX10_isReady N this p0 f = some r) : Mt l g yX10_isReady cX10_isReady 4 (Option.some Jvm.ClassFile.FieldType.boolean) 1 [.ref this, .int p0] f sz (roI (.inl r) f sz) := by
  unfold DX10_isReady at h
  obtain ⟨_, hck, h⟩ := ob_some h
  refine mt_of (by decide) (Nat.le_of_ble_eq_true rfl) (?_ : V l g (fun _ => True) (RX10, cX10_isReady, 4, (Option.some Jvm.ClassFile.FieldType.boolean), [], "isReady") 1 (roI (.inl r) f sz) 0 [(0, .ref this), (1, .int p0)] [] f sz 0 0)
  refine v_aload_n dX10_isReady_0 rfl rfl ?_
  refine v_iload_n dX10_isReady_1 rfl rfl ?_
  obtain ⟨x1, hx2, h⟩ := ob_some h
  have ehx2 := tX10_isFormula (l := l) (g := g) (sz := sz) N this p0 f hx2
  refine v_cVI dX10_isReady_2 ml_X10_203 ok_X10_isFormula ehx2 (kX10_isFormula N this p0 f hx2) rfl (by decide) rfl (rest := []) rfl (Nat.le_of_ble_eq_true rfl) ?_
  refine v_if_eq (tgt := 21) dX10_isReady_5 (by decide) (fun c15 => ?_) (fun c15 => ?_)
  · replace h := ip_ c15 h
    exact v_sub (vs_c rfl (vs_c rfl vs_n)) (tX10_isReady_21 N f this p0 h)
  · replace h := in_ c15 h
    refine v_aload_n dX10_isReady_8 rfl rfl ?_
    obtain ⟨x12, hx12, h⟩ := ob_some h
    refine v_getR dX10_isReady_9 fl_X10_78 hx12 ?_
    refine v_iload_n dX10_isReady_12 rfl rfl ?_
    obtain ⟨x13, hx13, h⟩ := ob_some h
    refine v_zald dX10_isReady_13 hx13 ?_
    refine v_if_ne (tgt := 21) dX10_isReady_14 (by decide) (fun c14 => ?_) (fun c14 => ?_)
    · replace h := in_ c14 h
      exact v_sub (vs_c rfl (vs_c rfl vs_n)) (tX10_isReady_21 N f this p0 h)
    · replace h := ip_ c14 h
      refine v_iconst (v := 1) dX10_isReady_17 (by decide) ?_
      refine v_goto (tgt := 22) dX10_isReady_18 (by decide) ?_
      exact v_sub (vs_c rfl (vs_c rfl vs_n)) (tX10_isReady_22 N f this p0 (1 : Int32) h)

/-! X10 calculate (W) -/
def DX10_calculate_89 (N : Nat) (k58 : Nat → Int32 → Int32 → HF → Option (Int32 × HF)) (v0 : Nat) (v3 : Int32) (s0 : Int32) (f : HF) : Option (Int32 × HF) :=
    (gR f v0 9 24).bind fun x19 =>
    (sI f x19 2 v3 (1 : Int32)).bind fun f20 =>
    k58 v0 s0 (0 : Int32) f20

def DX10_calculate_58 (N : Nat)  (n : Nat) (v0 : Nat) (v2 : Int32) (v3 : Int32) (f : HF) : Option (Int32 × HF) :=
  match n with
  | 0 => none
  | n + 1 =>
    (gI f v0 9 1).bind fun x13 =>
    if x13 ≤ v3 then
      some (v2, f)
    else
      (DX10_isReady N v0 v3 f).bind fun x14 =>
      if x14 = 0 then
        DX10_calculate_58 N n v0 v2 (v3 + 1) f
      else
        bW (DX10_work N v0 v3 f) fun x16 f18 =>
        if x16 = 0 then
          DX10_calculate_89 N (DX10_calculate_58 N n) v0 v3 v2 f18
        else
          DX10_calculate_89 N (DX10_calculate_58 N n) v0 v3 (v2 + (1 : Int32)) f18

def DX10_calculate_33 (N : Nat)  (n : Nat) (v0 : Nat) (v2 : Int32) (f : HF) : Option (Int32 × HF) :=
  match n with
  | 0 => none
  | n + 1 =>
    (gI f v0 9 1).bind fun x12 =>
    if x12 ≤ v2 then
      DX10_calculate_58 N N v0 (0 : Int32) (0 : Int32) f
    else
      (gR f v0 9 24).bind fun x24 =>
      (sI f x24 2 v2 (0 : Int32)).bind fun f25 =>
      DX10_calculate_33 N n v0 (v2 + 1) f25

def DX10_calculate (N : Nat) (this : Nat) (f : HF) : Option (Int32 × HF) :=
  (ck f this 9).bind fun _ =>
  (pV f this 9 0 (.int (0 : Int32))).bind fun f1 =>
  bW (DX10_learn N this f1) fun x2 f4 =>
  bW (DX10_ring N this f4) fun x5 f7 =>
  if x5 < 0 then
    bW (DX10_learn N this f7) fun x8 f10 =>
    (pV f10 this 9 26 (.int (0 : Int32))).bind fun f11 =>
    DX10_calculate_33 N N this (0 : Int32) f11
  else
    some (((-1 : Int32) - x5), f7)

set_option maxRecDepth 20000 in
theorem tX10_calculate_89 {l : Launch} {g : GT} {sz : Option Nat} (N : Nat) (k58 : Nat → Int32 → Int32 → HF → Option (Int32 × HF)) {r : (Int32 × HF)} (hk58 : ∀ (w0 : Nat) (w2 : Int32) (w3 : Int32) (f : HF), k58 w0 w2 w3 f = some r → V l g (fun _ => True) (RX10, cX10_calculate, 4, (Option.some Jvm.ClassFile.FieldType.int), [], "calculate") 5 (roI (.inl r.1) r.2 sz) 58 [(0, .ref w0), (2, .int w2), (3, .int w3)] [] f sz 0 0) : ∀ (v0 : Nat) (v3 : Int32) (s0 : Int32) (f : HF), DX10_calculate_89 N k58 v0 v3 s0 f = some r → V l g (fun _ => True) (RX10, cX10_calculate, 4, (Option.some Jvm.ClassFile.FieldType.int), [], "calculate") 5 (roI (.inl r.1) r.2 sz) 89 [(0, .ref v0), (3, .int v3)] [.int s0] f sz 0 0 := by
  intro v0 v3 s0 f h
  unfold DX10_calculate_89 at h
  refine v_istore_n (ls1 := [(2, .int s0), (0, .ref v0), (3, .int v3)]) dX10_calculate_89 rfl (by decide) rfl ?_
  refine v_aload_n dX10_calculate_90 rfl rfl ?_
  obtain ⟨x19, hx19, h⟩ := ob_some h
  refine v_getR dX10_calculate_91 fl_X10_78 hx19 ?_
  refine v_iload_n dX10_calculate_94 rfl rfl ?_
  refine v_iconst (v := 1) dX10_calculate_95 (by decide) ?_
  obtain ⟨f20, hf20, h⟩ := ob_some h
  refine v_zast dX10_calculate_96 (Or.inr rfl) hf20 ?_
  refine v_iconst (v := 0) dX10_calculate_97 (by decide) ?_
  refine v_istore_n (ls1 := [(3, .int (0 : Int32)), (2, .int s0), (0, .ref v0)]) dX10_calculate_98 rfl (by decide) rfl ?_
  refine v_goto (tgt := 58) dX10_calculate_99 (by decide) ?_
  exact v_sub (vs_c rfl (vs_c rfl (vs_c rfl vs_n))) (hk58 v0 s0 (0 : Int32) f20 h)

set_option maxRecDepth 20000 in
theorem tX10_calculate_58 {l : Launch} {g : GT} {sz : Option Nat} (N : Nat)  {r : (Int32 × HF)} : ∀ (n : Nat), ∀ (v0 : Nat) (v2 : Int32) (v3 : Int32) (f : HF), DX10_calculate_58 N n v0 v2 v3 f = some r → V l g (fun _ => True) (RX10, cX10_calculate, 4, (Option.some Jvm.ClassFile.FieldType.int), [], "calculate") 5 (roI (.inl r.1) r.2 sz) 58 [(0, .ref v0), (2, .int v2), (3, .int v3)] [] f sz 0 0 := by
  intro n
  induction n with
  | zero => intro v0 v2 v3 f h; cases h
  | succ n ih =>
    intro v0 v2 v3 f h
    rw [DX10_calculate_58] at h
    refine v_iload_n dX10_calculate_58 rfl rfl ?_
    refine v_aload_n dX10_calculate_59 rfl rfl ?_
    obtain ⟨x13, hx13, h⟩ := ob_some h
    refine v_getI dX10_calculate_60 fl_X10_106 hx13 ?_
    refine v_icmp_ge (tgt := 108) dX10_calculate_63 (by decide) (fun c23 => ?_) (fun c23 => ?_)
    · replace h := ip_ c23 h
      refine v_iload_n dX10_calculate_108 rfl rfl ?_
      obtain rfl := Option.some.inj h
      exact v_iret dX10_calculate_109 rfl rfl
    · replace h := in_ c23 h
      refine v_aload_n dX10_calculate_66 rfl rfl ?_
      refine v_iload_n dX10_calculate_67 rfl rfl ?_
      obtain ⟨x14, hx15, h⟩ := ob_some h
      have ehx15 := tX10_isReady (l := l) (g := g) (sz := sz) N v0 v3 f hx15
      refine v_cVI dX10_calculate_68 ml_X10_243 ok_X10_isReady ehx15 (kX10_isReady N v0 v3 f hx15) rfl (by decide) rfl (rest := []) rfl (Nat.le_of_ble_eq_true rfl) ?_
      refine v_if_eq (tgt := 102) dX10_calculate_71 (by decide) (fun c22 => ?_) (fun c22 => ?_)
      · replace h := ip_ c22 h
        refine v_iinc (v := (v3 + 1)) (ls1 := [(3, .int (v3 + 1)), (0, .ref v0), (2, .int v2)]) dX10_calculate_102 rfl rfl (by decide) rfl ?_
        refine v_goto (tgt := 58) dX10_calculate_105 (by decide) ?_
        exact v_sub (vs_c rfl (vs_c rfl (vs_c rfl vs_n))) (ih v0 v2 (v3 + 1) f h)
      · replace h := in_ c22 h
        refine v_aload_n dX10_calculate_74 rfl rfl ?_
        refine v_iload_n dX10_calculate_75 rfl rfl ?_
        obtain ⟨x16, f18, hx17, h⟩ := bW_some h
        have ehx17 := tX10_work (l := l) (g := g) (sz := sz) N v0 v3 f hx17
        refine v_cVI dX10_calculate_76 ml_X10_246 ok_X10_work ehx17 (kX10_work N v0 v3 f hx17) rfl (by decide) rfl (rest := []) rfl (Nat.le_of_ble_eq_true rfl) ?_
        refine v_if_eq (tgt := 88) dX10_calculate_79 (by decide) (fun c21 => ?_) (fun c21 => ?_)
        · replace h := ip_ c21 h
          refine v_iload_n dX10_calculate_88 rfl rfl ?_
          exact v_sub (vs_c rfl (vs_c rfl vs_n)) (tX10_calculate_89 N (DX10_calculate_58 N n) ih v0 v3 v2 f18 h)
        · replace h := in_ c21 h
          refine v_iload_n dX10_calculate_82 rfl rfl ?_
          refine v_iconst (v := 1) dX10_calculate_83 (by decide) ?_
          refine v_iadd dX10_calculate_84 ?_
          refine v_goto (tgt := 89) dX10_calculate_85 (by decide) ?_
          exact v_sub (vs_c rfl (vs_c rfl vs_n)) (tX10_calculate_89 N (DX10_calculate_58 N n) ih v0 v3 (v2 + (1 : Int32)) f18 h)

set_option maxRecDepth 20000 in
theorem tX10_calculate_33 {l : Launch} {g : GT} {sz : Option Nat} (N : Nat)  {r : (Int32 × HF)} : ∀ (n : Nat), ∀ (v0 : Nat) (v2 : Int32) (f : HF), DX10_calculate_33 N n v0 v2 f = some r → V l g (fun _ => True) (RX10, cX10_calculate, 4, (Option.some Jvm.ClassFile.FieldType.int), [], "calculate") 5 (roI (.inl r.1) r.2 sz) 33 [(0, .ref v0), (2, .int v2)] [] f sz 0 0 := by
  intro n
  induction n with
  | zero => intro v0 v2 f h; cases h
  | succ n ih =>
    intro v0 v2 f h
    rw [DX10_calculate_33] at h
    refine v_iload_n dX10_calculate_33 rfl rfl ?_
    refine v_aload_n dX10_calculate_34 rfl rfl ?_
    obtain ⟨x12, hx12, h⟩ := ob_some h
    refine v_getI dX10_calculate_35 fl_X10_106 hx12 ?_
    refine v_icmp_ge (tgt := 54) dX10_calculate_38 (by decide) (fun c26 => ?_) (fun c26 => ?_)
    · replace h := ip_ c26 h
      refine v_iconst (v := 0) dX10_calculate_54 (by decide) ?_
      refine v_istore_n (ls1 := [(2, .int (0 : Int32)), (0, .ref v0)]) dX10_calculate_55 rfl (by decide) rfl ?_
      refine v_iconst (v := 0) dX10_calculate_56 (by decide) ?_
      refine v_istore_n (ls1 := [(3, .int (0 : Int32)), (2, .int (0 : Int32)), (0, .ref v0)]) dX10_calculate_57 rfl (by decide) rfl ?_
      exact v_sub (vs_c rfl (vs_c rfl (vs_c rfl vs_n))) (tX10_calculate_58 N N v0 (0 : Int32) (0 : Int32) f h)
    · replace h := in_ c26 h
      refine v_aload_n dX10_calculate_41 rfl rfl ?_
      obtain ⟨x24, hx24, h⟩ := ob_some h
      refine v_getR dX10_calculate_42 fl_X10_78 hx24 ?_
      refine v_iload_n dX10_calculate_45 rfl rfl ?_
      refine v_iconst (v := 0) dX10_calculate_46 (by decide) ?_
      obtain ⟨f25, hf25, h⟩ := ob_some h
      refine v_zast dX10_calculate_47 (Or.inl rfl) hf25 ?_
      refine v_iinc (v := (v2 + 1)) (ls1 := [(2, .int (v2 + 1)), (0, .ref v0)]) dX10_calculate_48 rfl rfl (by decide) rfl ?_
      refine v_goto (tgt := 33) dX10_calculate_51 (by decide) ?_
      exact v_sub (vs_c rfl (vs_c rfl vs_n)) (ih v0 (v2 + 1) f25 h)

set_option maxRecDepth 20000 in
theorem kX10_calculate (N : Nat) (this : Nat) (f : HF) {r : (Int32 × HF)} (h : DX10_calculate N this f = some r) : ck f this 9 = some () := by
  unfold DX10_calculate at h
  obtain ⟨_, hck, _⟩ := ob_some h
  exact hck

set_option maxRecDepth 20000 in
theorem tX10_calculate {l : Launch} {g : GT} {sz : Option Nat} (N : Nat) (this : Nat) (f : HF) {r : (Int32 × HF)} (h : DX10_calculate N this f = some r) : Mt l g yX10_calculate cX10_calculate 4 (Option.some Jvm.ClassFile.FieldType.int) 5 [.ref this] f sz (roI (.inl r.1) r.2 sz) := by
  unfold DX10_calculate at h
  obtain ⟨_, hck, h⟩ := ob_some h
  refine mt_of (by decide) (Nat.le_of_ble_eq_true rfl) (?_ : V l g (fun _ => True) (RX10, cX10_calculate, 4, (Option.some Jvm.ClassFile.FieldType.int), [], "calculate") 5 (roI (.inl r.1) r.2 sz) 0 [(0, .ref this)] [] f sz 0 0)
  refine v_aload_n dX10_calculate_0 rfl rfl ?_
  refine v_iconst (v := 0) dX10_calculate_1 (by decide) ?_
  obtain ⟨f1, hf1, h⟩ := ob_some h
  refine v_pI dX10_calculate_2 fp_X10_102 hf1 ?_
  refine v_aload_n dX10_calculate_5 rfl rfl ?_
  obtain ⟨x2, f4, hx3, h⟩ := bW_some h
  have ehx3 := tX10_learn (l := l) (g := g) (sz := sz) N this f1 hx3
  refine v_cVU dX10_calculate_6 ml_X10_236 ok_X10_learn ehx3 (kX10_learn N this f1 hx3) rfl (by decide) rfl (rest := []) rfl (Nat.le_of_ble_eq_true rfl) ?_
  refine v_aload_n dX10_calculate_9 rfl rfl ?_
  obtain ⟨x5, f7, hx6, h⟩ := bW_some h
  have ehx6 := tX10_ring (l := l) (g := g) (sz := sz) N this f4 hx6
  refine v_cVI dX10_calculate_10 ml_X10_239 ok_X10_ring ehx6 (kX10_ring N this f4 hx6) rfl (by decide) rfl (rest := []) rfl (Nat.le_of_ble_eq_true rfl) ?_
  refine v_istore_n (ls1 := [(1, .int x5), (0, .ref this)]) dX10_calculate_13 rfl (by decide) rfl ?_
  refine v_iload_n dX10_calculate_14 rfl rfl ?_
  refine v_if_lt (tgt := 22) dX10_calculate_15 (by decide) (fun c27 => ?_) (fun c27 => ?_)
  · replace h := ip_ c27 h
    refine v_aload_n dX10_calculate_22 rfl rfl ?_
    obtain ⟨x8, f10, hx9, h⟩ := bW_some h
    have ehx9 := tX10_learn (l := l) (g := g) (sz := sz) N this f7 hx9
    refine v_cVU dX10_calculate_23 ml_X10_236 ok_X10_learn ehx9 (kX10_learn N this f7 hx9) rfl (by decide) rfl (rest := []) rfl (Nat.le_of_ble_eq_true rfl) ?_
    refine v_aload_n dX10_calculate_26 rfl rfl ?_
    refine v_iconst (v := 0) dX10_calculate_27 (by decide) ?_
    obtain ⟨f11, hf11, h⟩ := ob_some h
    refine v_pI dX10_calculate_28 fp_X10_229 hf11 ?_
    refine v_iconst (v := 0) dX10_calculate_31 (by decide) ?_
    refine v_istore_n (ls1 := [(2, .int (0 : Int32)), (1, .int x5), (0, .ref this)]) dX10_calculate_32 rfl (by decide) rfl ?_
    exact v_sub (vs_c rfl (vs_c rfl vs_n)) (tX10_calculate_33 N N this (0 : Int32) f11 h)
  · replace h := in_ c27 h
    refine v_iconst (v := -1) dX10_calculate_18 (by decide) ?_
    refine v_iload_n dX10_calculate_19 rfl rfl ?_
    refine v_isub dX10_calculate_20 ?_
    obtain rfl := Option.some.inj h
    exact v_iret dX10_calculate_21 rfl rfl

/-! X10 failed (W) -/
def DX10_failed_24 (N : Nat)  (v0 : Nat) (v1 : Int32) (s0 : Nat) (s1 : Int32) (f : HF) : Option (Int32 × HF) :=
    (pV f s0 9 0 (.int s1)).bind fun f4 =>
    (gI f4 v0 9 0).bind fun x5 =>
    if x5 ≤ 0 then
      if v1 = (-1 : Int32) then
        (gI f4 v0 9 26).bind fun x8 =>
        some (x8, f4)
      else
        (gR f4 v0 9 25).bind fun x6 =>
        (aI f4 x6 0 v1).bind fun x7 =>
        some (x7, f4)
    else
      some ((0 : Int32), f4)

def DX10_failed (N : Nat) (this : Nat) (p0 : Int32) (f : HF) : Option (Int32 × HF) :=
  (ck f this 9).bind fun _ =>
  (gI f this 9 26).bind fun x1 =>
  (DX10_isIn N (p0.toInt64) (-1 : Int64) ((x1.toInt64) - (1 : Int64)) f).bind fun x2 =>
  if x2 = 0 then
    DX10_failed_24 N this p0 this (1 : Int32) f
  else
    DX10_failed_24 N this p0 this (0 : Int32) f

set_option maxRecDepth 20000 in
theorem tX10_failed_24 {l : Launch} {g : GT} {sz : Option Nat} (N : Nat)  {r : (Int32 × HF)} : ∀ (v0 : Nat) (v1 : Int32) (s0 : Nat) (s1 : Int32) (f : HF), DX10_failed_24 N v0 v1 s0 s1 f = some r → V l g (fun _ => True) (RX10, cX10_failed, 2, (Option.some Jvm.ClassFile.FieldType.int), [], "failed") 1 (roI (.inl r.1) r.2 sz) 24 [(0, .ref v0), (1, .int v1)] [.int s1, .ref s0] f sz 0 0 := by
  intro v0 v1 s0 s1 f h
  unfold DX10_failed_24 at h
  obtain ⟨f4, hf4, h⟩ := ob_some h
  refine v_pI dX10_failed_24 fp_X10_102 hf4 ?_
  refine v_aload_n dX10_failed_27 rfl rfl ?_
  obtain ⟨x5, hx5, h⟩ := ob_some h
  refine v_getI dX10_failed_28 fl_X10_102 hx5 ?_
  refine v_if_le (tgt := 38) dX10_failed_31 (by decide) (fun c10 => ?_) (fun c10 => ?_)
  · replace h := ip_ c10 h
    refine v_iload_n dX10_failed_38 rfl rfl ?_
    refine v_iconst (v := -1) dX10_failed_39 (by decide) ?_
    refine v_icmp_ne (tgt := 50) dX10_failed_40 (by decide) (fun c9 => ?_) (fun c9 => ?_)
    · replace h := in_ c9 h
      refine v_aload_n dX10_failed_50 rfl rfl ?_
      obtain ⟨x6, hx6, h⟩ := ob_some h
      refine v_getR dX10_failed_51 fl_X10_81 hx6 ?_
      refine v_iload_n dX10_failed_54 rfl rfl ?_
      obtain ⟨x7, hx7, h⟩ := ob_some h
      refine v_iald dX10_failed_55 hx7 ?_
      obtain rfl := Option.some.inj h
      exact v_iret dX10_failed_56 rfl rfl
    · replace h := ip_ c9 h
      refine v_aload_n dX10_failed_43 rfl rfl ?_
      obtain ⟨x8, hx8, h⟩ := ob_some h
      refine v_getI dX10_failed_44 fl_X10_229 hx8 ?_
      refine v_goto (tgt := 56) dX10_failed_47 (by decide) ?_
      obtain rfl := Option.some.inj h
      exact v_iret dX10_failed_56 rfl rfl
  · replace h := in_ c10 h
    refine v_iconst (v := 0) dX10_failed_34 (by decide) ?_
    refine v_goto (tgt := 56) dX10_failed_35 (by decide) ?_
    obtain rfl := Option.some.inj h
    exact v_iret dX10_failed_56 rfl rfl

set_option maxRecDepth 20000 in
theorem kX10_failed (N : Nat) (this : Nat) (p0 : Int32) (f : HF) {r : (Int32 × HF)} (h : DX10_failed N this p0 f = some r) : ck f this 9 = some () := by
  unfold DX10_failed at h
  obtain ⟨_, hck, _⟩ := ob_some h
  exact hck

set_option maxRecDepth 20000 in
theorem tX10_failed {l : Launch} {g : GT} {sz : Option Nat} (N : Nat) (this : Nat) (p0 : Int32) (f : HF) {r : (Int32 × HF)} (h : DX10_failed N this p0 f = some r) : Mt l g yX10_failed cX10_failed 2 (Option.some Jvm.ClassFile.FieldType.int) 1 [.ref this, .int p0] f sz (roI (.inl r.1) r.2 sz) := by
  unfold DX10_failed at h
  obtain ⟨_, hck, h⟩ := ob_some h
  refine mt_of (by decide) (Nat.le_of_ble_eq_true rfl) (?_ : V l g (fun _ => True) (RX10, cX10_failed, 2, (Option.some Jvm.ClassFile.FieldType.int), [], "failed") 1 (roI (.inl r.1) r.2 sz) 0 [(0, .ref this), (1, .int p0)] [] f sz 0 0)
  refine v_aload_n dX10_failed_0 rfl rfl ?_
  refine v_iload_n dX10_failed_1 rfl rfl ?_
  refine v_i2l dX10_failed_2 ?_
  refine v_ldc2 dX10_failed_3 kc_X10_193 ?_
  refine v_aload_n dX10_failed_6 rfl rfl ?_
  obtain ⟨x1, hx1, h⟩ := ob_some h
  refine v_getI dX10_failed_7 fl_X10_229 hx1 ?_
  refine v_i2l dX10_failed_10 ?_
  refine v_lconst (v := 1) dX10_failed_11 (by decide) ?_
  refine v_lsub dX10_failed_12 ?_
  obtain ⟨x2, hx3, h⟩ := ob_some h
  have ehx3 := tX10_isIn (l := l) (g := g) (sz := sz) N (p0.toInt64) (-1 : Int64) ((x1.toInt64) - (1 : Int64)) f hx3
  refine v_cSI dX10_failed_13 ml_X10_115 ok_X10_isIn ehx3 (by decide) rfl (rest := [.ref this]) rfl (Nat.le_of_ble_eq_true rfl) ?_
  refine v_if_eq (tgt := 23) dX10_failed_16 (by decide) (fun c11 => ?_) (fun c11 => ?_)
  · replace h := ip_ c11 h
    refine v_iconst (v := 1) dX10_failed_23 (by decide) ?_
    exact v_sub (vs_c rfl (vs_c rfl vs_n)) (tX10_failed_24 N this p0 this (1 : Int32) f h)
  · replace h := in_ c11 h
    refine v_iconst (v := 0) dX10_failed_19 (by decide) ?_
    refine v_goto (tgt := 24) dX10_failed_20 (by decide) ?_
    exact v_sub (vs_c rfl (vs_c rfl vs_n)) (tX10_failed_24 N this p0 this (0 : Int32) f h)

/-! X10 fails (W) -/
def DX10_fails_59 (N : Nat)  (v0 : Nat) (v1 : Int32) (v2 : Int32) (s0 : Int32) (f : HF) : Option (Int32 × HF) :=
    (gR f v0 9 21).bind fun x11 =>
    (gR f v0 9 5).bind fun x12 =>
    (aI f x12 0 v1).bind fun x13 =>
    if v2 = 0 ∨ v2 = 1 then
    (sI f x11 2 x13 v2).bind fun f14 =>
    some (s0, f14)
    else none

def DX10_fails_28 (N : Nat)  (v0 : Nat) (v1 : Int32) (v2 : Int32) (s0 : Nat) (s1 : Int32) (f : HF) : Option (Int32 × HF) :=
    (pV f s0 9 0 (.int s1)).bind fun f5 =>
    (gI f5 v0 9 0).bind fun x6 =>
    if x6 ≤ 0 then
      (gR f5 v0 9 21).bind fun x7 =>
      (gR f5 v0 9 5).bind fun x8 =>
      (aI f5 x8 0 v1).bind fun x9 =>
      (aI f5 x7 2 x9).bind fun x10 =>
      if x10 = 0 then
        DX10_fails_59 N v0 v1 v2 (0 : Int32) f5
      else
        DX10_fails_59 N v0 v1 v2 (1 : Int32) f5
    else
      some ((0 : Int32), f5)

def DX10_fails (N : Nat) (this : Nat) (p0 : Int32) (p1 : Int32) (f : HF) : Option (Int32 × HF) :=
  (ck f this 9).bind fun _ =>
  (DX10_no N this p0 f).bind fun x1 =>
  if x1 = 0 then
    (gR f this 9 2).bind fun x3 =>
    (aI f x3 0 p0).bind fun x4 =>
    if x4 = (5 : Int32) then
      DX10_fails_28 N this p0 p1 this (0 : Int32) f
    else
      DX10_fails_28 N this p0 p1 this (2 : Int32) f
  else
    DX10_fails_28 N this p0 p1 this (1 : Int32) f

set_option maxRecDepth 20000 in
theorem tX10_fails_59 {l : Launch} {g : GT} {sz : Option Nat} (N : Nat)  {r : (Int32 × HF)} : ∀ (v0 : Nat) (v1 : Int32) (v2 : Int32) (s0 : Int32) (f : HF), DX10_fails_59 N v0 v1 v2 s0 f = some r → V l g (fun _ => True) (RX10, cX10_fails, 4, (Option.some Jvm.ClassFile.FieldType.int), [], "fails") 1 (roI (.inl r.1) r.2 sz) 59 [(0, .ref v0), (1, .int v1), (2, .int v2)] [.int s0] f sz 0 0 := by
  intro v0 v1 v2 s0 f h
  unfold DX10_fails_59 at h
  refine v_istore_n (ls1 := [(3, .int s0), (0, .ref v0), (1, .int v1), (2, .int v2)]) dX10_fails_59 rfl (by decide) rfl ?_
  refine v_aload_n dX10_fails_60 rfl rfl ?_
  obtain ⟨x11, hx11, h⟩ := ob_some h
  refine v_getR dX10_fails_61 fl_X10_69 hx11 ?_
  refine v_aload_n dX10_fails_64 rfl rfl ?_
  obtain ⟨x12, hx12, h⟩ := ob_some h
  refine v_getR dX10_fails_65 fl_X10_19 hx12 ?_
  refine v_iload_n dX10_fails_68 rfl rfl ?_
  obtain ⟨x13, hx13, h⟩ := ob_some h
  refine v_iald dX10_fails_69 hx13 ?_
  refine v_iload_n dX10_fails_70 rfl rfl ?_
  obtain ⟨hB, h⟩ := if_some h
  obtain ⟨f14, hf14, h⟩ := ob_some h
  refine v_zast dX10_fails_71 hB hf14 ?_
  refine v_iload_n dX10_fails_72 rfl rfl ?_
  obtain rfl := Option.some.inj h
  exact v_iret dX10_fails_73 rfl rfl

set_option maxRecDepth 20000 in
theorem tX10_fails_28 {l : Launch} {g : GT} {sz : Option Nat} (N : Nat)  {r : (Int32 × HF)} : ∀ (v0 : Nat) (v1 : Int32) (v2 : Int32) (s0 : Nat) (s1 : Int32) (f : HF), DX10_fails_28 N v0 v1 v2 s0 s1 f = some r → V l g (fun _ => True) (RX10, cX10_fails, 4, (Option.some Jvm.ClassFile.FieldType.int), [], "fails") 1 (roI (.inl r.1) r.2 sz) 28 [(0, .ref v0), (1, .int v1), (2, .int v2)] [.int s1, .ref s0] f sz 0 0 := by
  intro v0 v1 v2 s0 s1 f h
  unfold DX10_fails_28 at h
  obtain ⟨f5, hf5, h⟩ := ob_some h
  refine v_pI dX10_fails_28 fp_X10_102 hf5 ?_
  refine v_aload_n dX10_fails_31 rfl rfl ?_
  obtain ⟨x6, hx6, h⟩ := ob_some h
  refine v_getI dX10_fails_32 fl_X10_102 hx6 ?_
  refine v_if_le (tgt := 40) dX10_fails_35 (by decide) (fun c16 => ?_) (fun c16 => ?_)
  · replace h := ip_ c16 h
    refine v_aload_n dX10_fails_40 rfl rfl ?_
    obtain ⟨x7, hx7, h⟩ := ob_some h
    refine v_getR dX10_fails_41 fl_X10_69 hx7 ?_
    refine v_aload_n dX10_fails_44 rfl rfl ?_
    obtain ⟨x8, hx8, h⟩ := ob_some h
    refine v_getR dX10_fails_45 fl_X10_19 hx8 ?_
    refine v_iload_n dX10_fails_48 rfl rfl ?_
    obtain ⟨x9, hx9, h⟩ := ob_some h
    refine v_iald dX10_fails_49 hx9 ?_
    obtain ⟨x10, hx10, h⟩ := ob_some h
    refine v_zald dX10_fails_50 hx10 ?_
    refine v_if_eq (tgt := 58) dX10_fails_51 (by decide) (fun c15 => ?_) (fun c15 => ?_)
    · replace h := ip_ c15 h
      refine v_iconst (v := 0) dX10_fails_58 (by decide) ?_
      exact v_sub (vs_c rfl (vs_c rfl (vs_c rfl vs_n))) (tX10_fails_59 N v0 v1 v2 (0 : Int32) f5 h)
    · replace h := in_ c15 h
      refine v_iconst (v := 1) dX10_fails_54 (by decide) ?_
      refine v_goto (tgt := 59) dX10_fails_55 (by decide) ?_
      exact v_sub (vs_c rfl (vs_c rfl (vs_c rfl vs_n))) (tX10_fails_59 N v0 v1 v2 (1 : Int32) f5 h)
  · replace h := in_ c16 h
    refine v_iconst (v := 0) dX10_fails_38 (by decide) ?_
    obtain rfl := Option.some.inj h
    exact v_iret dX10_fails_39 rfl rfl

set_option maxRecDepth 20000 in
theorem kX10_fails (N : Nat) (this : Nat) (p0 : Int32) (p1 : Int32) (f : HF) {r : (Int32 × HF)} (h : DX10_fails N this p0 p1 f = some r) : ck f this 9 = some () := by
  unfold DX10_fails at h
  obtain ⟨_, hck, _⟩ := ob_some h
  exact hck

set_option maxRecDepth 20000 in
theorem tX10_fails {l : Launch} {g : GT} {sz : Option Nat} (N : Nat) (this : Nat) (p0 : Int32) (p1 : Int32) (f : HF) {r : (Int32 × HF)} (h : DX10_fails N this p0 p1 f = some r) : Mt l g yX10_fails cX10_fails 4 (Option.some Jvm.ClassFile.FieldType.int) 1 [.ref this, .int p0, .int p1] f sz (roI (.inl r.1) r.2 sz) := by
  unfold DX10_fails at h
  obtain ⟨_, hck, h⟩ := ob_some h
  refine mt_of (by decide) (Nat.le_of_ble_eq_true rfl) (?_ : V l g (fun _ => True) (RX10, cX10_fails, 4, (Option.some Jvm.ClassFile.FieldType.int), [], "fails") 1 (roI (.inl r.1) r.2 sz) 0 [(0, .ref this), (1, .int p0), (2, .int p1)] [] f sz 0 0)
  refine v_aload_n dX10_fails_0 rfl rfl ?_
  refine v_aload_n dX10_fails_1 rfl rfl ?_
  refine v_iload_n dX10_fails_2 rfl rfl ?_
  obtain ⟨x1, hx2, h⟩ := ob_some h
  have ehx2 := tX10_no (l := l) (g := g) (sz := sz) N this p0 f hx2
  refine v_cVI dX10_fails_3 ml_X10_109 ok_X10_no ehx2 (kX10_no N this p0 f hx2) rfl (by decide) rfl (rest := [.ref this]) rfl (Nat.le_of_ble_eq_true rfl) ?_
  refine v_if_eq (tgt := 13) dX10_fails_6 (by decide) (fun c18 => ?_) (fun c18 => ?_)
  · replace h := ip_ c18 h
    refine v_aload_n dX10_fails_13 rfl rfl ?_
    obtain ⟨x3, hx3, h⟩ := ob_some h
    refine v_getR dX10_fails_14 fl_X10_7 hx3 ?_
    refine v_iload_n dX10_fails_17 rfl rfl ?_
    obtain ⟨x4, hx4, h⟩ := ob_some h
    refine v_iald dX10_fails_18 hx4 ?_
    refine v_iconst (v := 5) dX10_fails_19 (by decide) ?_
    refine v_icmp_eq (tgt := 27) dX10_fails_20 (by decide) (fun c17 => ?_) (fun c17 => ?_)
    · replace h := ip_ c17 h
      refine v_iconst (v := 0) dX10_fails_27 (by decide) ?_
      exact v_sub (vs_c rfl (vs_c rfl (vs_c rfl vs_n))) (tX10_fails_28 N this p0 p1 this (0 : Int32) f h)
    · replace h := in_ c17 h
      refine v_iconst (v := 2) dX10_fails_23 (by decide) ?_
      refine v_goto (tgt := 28) dX10_fails_24 (by decide) ?_
      exact v_sub (vs_c rfl (vs_c rfl (vs_c rfl vs_n))) (tX10_fails_28 N this p0 p1 this (2 : Int32) f h)
  · replace h := in_ c18 h
    refine v_iconst (v := 1) dX10_fails_9 (by decide) ?_
    refine v_goto (tgt := 28) dX10_fails_10 (by decide) ?_
    exact v_sub (vs_c rfl (vs_c rfl (vs_c rfl vs_n))) (tX10_fails_28 N this p0 p1 this (1 : Int32) f h)

/-! X10 putRounded (W) -/
def DX10_putRounded_161 (N : Nat)  (n : Nat) (v0 : Nat) (v11 : Int64) (v13 : Int64) (f : HF) : Option (Unit × HF) :=
  match n with
  | 0 => none
  | n + 1 =>
    if v13 ≤ (0 : Int64) then
      some ((), f)
    else
      if ¬ v13 = 0 then
      bW (DX10_put N v0 ((((48 : Int64) + ((v11 / v13) - (v11 / v13) / (10 : Int64) * (10 : Int64)))).toInt32) f) fun x13 f15 =>
      DX10_putRounded_161 N n v0 v11 (v13 / (10 : Int64)) f15
      else none

def DX10_putRounded_128 (N : Nat)  (v0 : Nat) (v4 : Int32) (v5 : Int64) (v7 : Int64) (s0 : Nat) (s1 : Int64) (s2 : Int32) (f : HF) : Option (Unit × HF) :=
    bW (DX10_putNumber N s0 s1 s2 f) fun x7 f9 =>
    if v4 ≤ 0 then
      some ((), f9)
    else
      bW (DX10_put N v0 (46 : Int32) f9) fun x10 f12 =>
      if ¬ v5 = 0 then
      if ¬ ((1000 : Int64) / v5) = 0 then
      if ¬ v5 = 0 then
      DX10_putRounded_161 N N v0 (v7 - v7 / ((1000 : Int64) / v5) * ((1000 : Int64) / v5)) ((100 : Int64) / v5) f12
      else none
      else none
      else none

def DX10_putRounded_106 (N : Nat)  (v0 : Nat) (v1 : Int32) (v4 : Int32) (v5 : Int64) (v7 : Int64) (v9 : Int64) (f : HF) : Option (Unit × HF) :=
    (gR f v0 9 15).bind fun x5 =>
    (aI f x5 0 (((5 : Int32) * v1) + (4 : Int32))).bind fun x6 =>
    if x6 = (1 : Int32) then
      DX10_putRounded_128 N v0 v4 v5 v7 v0 v9 (1 : Int32) f
    else
      DX10_putRounded_128 N v0 v4 v5 v7 v0 v9 (0 : Int32) f

def DX10_putRounded_85 (N : Nat)  (v0 : Nat) (v1 : Int32) (v2 : Int64) (v4 : Int32) (v5 : Int64) (v7 : Int64) (s0 : Int64) (f : HF) : Option (Unit × HF) :=
    if (0 : Int64) ≤ v2 then
      DX10_putRounded_106 N v0 v1 v4 v5 v7 s0 f
    else
      if v7 ≤ (0 : Int64) then
        DX10_putRounded_106 N v0 v1 v4 v5 v7 s0 f
      else
        bW (DX10_put N v0 (45 : Int32) f) fun x19 f21 =>
        DX10_putRounded_106 N v0 v1 v4 v5 v7 s0 f21

def DX10_putRounded_48 (N : Nat)  (v0 : Nat) (v1 : Int32) (v2 : Int64) (v4 : Int32) (s0 : Int64) (f : HF) : Option (Unit × HF) :=
    (DX10_abs N v2 f).bind fun x3 =>
    if ¬ s0 = 0 then
    if v4 = 0 then
      DX10_putRounded_85 N v0 v1 v2 v4 s0 ((x3 + (s0 / (2 : Int64))) / s0) ((x3 + (s0 / (2 : Int64))) / s0) f
    else
      if ¬ s0 = 0 then
      if ¬ ((1000 : Int64) / s0) = 0 then
      DX10_putRounded_85 N v0 v1 v2 v4 s0 ((x3 + (s0 / (2 : Int64))) / s0) (((x3 + (s0 / (2 : Int64))) / s0) / ((1000 : Int64) / s0)) f
      else none
      else none
    else none

def DX10_putRounded (N : Nat) (this : Nat) (p0 : Int32) (p1 : Int64) (f : HF) : Option (Unit × HF) :=
  (ck f this 9).bind fun _ =>
  (gR f this 9 15).bind fun x1 =>
  (aI f x1 0 (((5 : Int32) * p0) + (3 : Int32))).bind fun x2 =>
  if x2 = 0 then
    DX10_putRounded_48 N this p0 p1 x2 (1000 : Int64) f
  else
    if x2 = (1 : Int32) then
      DX10_putRounded_48 N this p0 p1 x2 (100 : Int64) f
    else
      if x2 = (2 : Int32) then
        DX10_putRounded_48 N this p0 p1 x2 (10 : Int64) f
      else
        DX10_putRounded_48 N this p0 p1 x2 (1 : Int64) f

set_option maxRecDepth 20000 in
theorem tX10_putRounded_161 {l : Launch} {g : GT} {sz : Option Nat} (N : Nat)  {r : (Unit × HF)} : ∀ (n : Nat), ∀ (v0 : Nat) (v11 : Int64) (v13 : Int64) (f : HF), DX10_putRounded_161 N n v0 v11 v13 f = some r → V l g (fun _ => True) (RX10, cX10_putRounded, 15, (Option.none : Option Jvm.ClassFile.FieldType), [], "putRounded") 2 (roU (.inl r.1) r.2 sz) 161 [(0, .ref v0), (11, .long v11), (13, .long v13)] [] f sz 0 0 := by
  intro n
  induction n with
  | zero => intro v0 v11 v13 f h; cases h
  | succ n ih =>
    intro v0 v11 v13 f h
    rw [DX10_putRounded_161] at h
    refine v_lload dX10_putRounded_161 rfl ?_
    refine v_lconst (v := 0) dX10_putRounded_163 (by decide) ?_
    refine v_lcmp_le (tgt := 197) dX10_putRounded_164 dX10_putRounded_165 (by decide) (fun c16 => ?_) (fun c16 => ?_)
    · replace h := ip_ c16 h
      obtain rfl := Option.some.inj h
      exact v_vret dX10_putRounded_197 rfl rfl
    · replace h := in_ c16 h
      refine v_aload_n dX10_putRounded_168 rfl rfl ?_
      refine v_ldc2 dX10_putRounded_169 kc_X10_172 ?_
      refine v_lload dX10_putRounded_172 rfl ?_
      refine v_lload dX10_putRounded_174 rfl ?_
      obtain ⟨hz, h⟩ := if_some h
      refine v_ldiv dX10_putRounded_176 hz ?_
      refine v_ldc2 dX10_putRounded_177 kc_X10_176 ?_
      refine v_lrem dX10_putRounded_180 (by decide) ?_
      refine v_ladd dX10_putRounded_181 ?_
      refine v_l2i dX10_putRounded_182 ?_
      obtain ⟨x13, f15, hx14, h⟩ := bW_some h
      have ehx14 := tX10_put (l := l) (g := g) (sz := sz) N v0 ((((48 : Int64) + ((v11 / v13) - (v11 / v13) / (10 : Int64) * (10 : Int64)))).toInt32) f hx14
      refine v_cVU dX10_putRounded_183 ml_X10_183 ok_X10_put ehx14 (kX10_put N v0 ((((48 : Int64) + ((v11 / v13) - (v11 / v13) / (10 : Int64) * (10 : Int64)))).toInt32) f hx14) rfl (by decide) rfl (rest := []) rfl (Nat.le_of_ble_eq_true rfl) ?_
      refine v_lload dX10_putRounded_186 rfl ?_
      refine v_ldc2 dX10_putRounded_188 kc_X10_176 ?_
      refine v_ldiv dX10_putRounded_191 (by decide) ?_
      refine v_lstore (ls1 := [(13, .long (v13 / (10 : Int64))), (0, .ref v0), (11, .long v11)]) dX10_putRounded_192 (by decide) rfl ?_
      refine v_goto (tgt := 161) dX10_putRounded_194 (by decide) ?_
      exact v_sub (vs_c rfl (vs_c rfl (vs_c rfl vs_n))) (ih v0 v11 (v13 / (10 : Int64)) f15 h)

set_option maxRecDepth 20000 in
theorem tX10_putRounded_128 {l : Launch} {g : GT} {sz : Option Nat} (N : Nat)  {r : (Unit × HF)} : ∀ (v0 : Nat) (v4 : Int32) (v5 : Int64) (v7 : Int64) (s0 : Nat) (s1 : Int64) (s2 : Int32) (f : HF), DX10_putRounded_128 N v0 v4 v5 v7 s0 s1 s2 f = some r → V l g (fun _ => True) (RX10, cX10_putRounded, 15, (Option.none : Option Jvm.ClassFile.FieldType), [], "putRounded") 2 (roU (.inl r.1) r.2 sz) 128 [(0, .ref v0), (4, .int v4), (5, .long v5), (7, .long v7)] [.int s2, .long s1, .ref s0] f sz 0 0 := by
  intro v0 v4 v5 v7 s0 s1 s2 f h
  unfold DX10_putRounded_128 at h
  obtain ⟨x7, f9, hx8, h⟩ := bW_some h
  have ehx8 := tX10_putNumber (l := l) (g := g) (sz := sz) N s0 s1 s2 f hx8
  refine v_cVU dX10_putRounded_128 ml_X10_187 ok_X10_putNumber ehx8 (kX10_putNumber N s0 s1 s2 f hx8) rfl (by decide) rfl (rest := []) rfl (Nat.le_of_ble_eq_true rfl) ?_
  refine v_iload dX10_putRounded_131 rfl ?_
  refine v_if_le (tgt := 197) dX10_putRounded_133 (by decide) (fun c17 => ?_) (fun c17 => ?_)
  · replace h := ip_ c17 h
    obtain rfl := Option.some.inj h
    exact v_vret dX10_putRounded_197 rfl rfl
  · replace h := in_ c17 h
    refine v_aload_n dX10_putRounded_136 rfl rfl ?_
    refine v_bipush (v := 46) dX10_putRounded_137 (by decide) ?_
    obtain ⟨x10, f12, hx11, h⟩ := bW_some h
    have ehx11 := tX10_put (l := l) (g := g) (sz := sz) N v0 (46 : Int32) f9 hx11
    refine v_cVU dX10_putRounded_139 ml_X10_183 ok_X10_put ehx11 (kX10_put N v0 (46 : Int32) f9 hx11) rfl (by decide) rfl (rest := []) rfl (Nat.le_of_ble_eq_true rfl) ?_
    refine v_lload dX10_putRounded_142 rfl ?_
    refine v_ldc2 dX10_putRounded_144 kc_X10_170 ?_
    refine v_lload dX10_putRounded_147 rfl ?_
    obtain ⟨hz, h⟩ := if_some h
    refine v_ldiv dX10_putRounded_149 hz ?_
    obtain ⟨hz, h⟩ := if_some h
    refine v_lrem dX10_putRounded_150 hz ?_
    refine v_lstore (ls1 := [(11, .long (v7 - v7 / ((1000 : Int64) / v5) * ((1000 : Int64) / v5))), (0, .ref v0), (4, .int v4), (5, .long v5), (7, .long v7)]) dX10_putRounded_151 (by decide) rfl ?_
    refine v_ldc2 dX10_putRounded_153 kc_X10_191 ?_
    refine v_lload dX10_putRounded_156 rfl ?_
    obtain ⟨hz, h⟩ := if_some h
    refine v_ldiv dX10_putRounded_158 hz ?_
    refine v_lstore (ls1 := [(13, .long ((100 : Int64) / v5)), (11, .long (v7 - v7 / ((1000 : Int64) / v5) * ((1000 : Int64) / v5))), (0, .ref v0), (4, .int v4), (5, .long v5), (7, .long v7)]) dX10_putRounded_159 (by decide) rfl ?_
    exact v_sub (vs_c rfl (vs_c rfl (vs_c rfl vs_n))) (tX10_putRounded_161 N N v0 (v7 - v7 / ((1000 : Int64) / v5) * ((1000 : Int64) / v5)) ((100 : Int64) / v5) f12 h)

set_option maxRecDepth 20000 in
theorem tX10_putRounded_106 {l : Launch} {g : GT} {sz : Option Nat} (N : Nat)  {r : (Unit × HF)} : ∀ (v0 : Nat) (v1 : Int32) (v4 : Int32) (v5 : Int64) (v7 : Int64) (v9 : Int64) (f : HF), DX10_putRounded_106 N v0 v1 v4 v5 v7 v9 f = some r → V l g (fun _ => True) (RX10, cX10_putRounded, 15, (Option.none : Option Jvm.ClassFile.FieldType), [], "putRounded") 2 (roU (.inl r.1) r.2 sz) 106 [(0, .ref v0), (1, .int v1), (4, .int v4), (5, .long v5), (7, .long v7), (9, .long v9)] [] f sz 0 0 := by
  intro v0 v1 v4 v5 v7 v9 f h
  unfold DX10_putRounded_106 at h
  refine v_aload_n dX10_putRounded_106 rfl rfl ?_
  refine v_lload dX10_putRounded_107 rfl ?_
  refine v_aload_n dX10_putRounded_109 rfl rfl ?_
  obtain ⟨x5, hx5, h⟩ := ob_some h
  refine v_getR dX10_putRounded_110 fl_X10_50 hx5 ?_
  refine v_iconst (v := 5) dX10_putRounded_113 (by decide) ?_
  refine v_iload_n dX10_putRounded_114 rfl rfl ?_
  refine v_imul dX10_putRounded_115 ?_
  refine v_iconst (v := 4) dX10_putRounded_116 (by decide) ?_
  refine v_iadd dX10_putRounded_117 ?_
  obtain ⟨x6, hx6, h⟩ := ob_some h
  refine v_iald dX10_putRounded_118 hx6 ?_
  refine v_iconst (v := 1) dX10_putRounded_119 (by decide) ?_
  refine v_icmp_ne (tgt := 127) dX10_putRounded_120 (by decide) (fun c18 => ?_) (fun c18 => ?_)
  · replace h := in_ c18 h
    refine v_iconst (v := 0) dX10_putRounded_127 (by decide) ?_
    exact v_sub (vs_c rfl (vs_c rfl (vs_c rfl (vs_c rfl vs_n)))) (tX10_putRounded_128 N v0 v4 v5 v7 v0 v9 (0 : Int32) f h)
  · replace h := ip_ c18 h
    refine v_iconst (v := 1) dX10_putRounded_123 (by decide) ?_
    refine v_goto (tgt := 128) dX10_putRounded_124 (by decide) ?_
    exact v_sub (vs_c rfl (vs_c rfl (vs_c rfl (vs_c rfl vs_n)))) (tX10_putRounded_128 N v0 v4 v5 v7 v0 v9 (1 : Int32) f h)

set_option maxRecDepth 20000 in
theorem tX10_putRounded_85 {l : Launch} {g : GT} {sz : Option Nat} (N : Nat)  {r : (Unit × HF)} : ∀ (v0 : Nat) (v1 : Int32) (v2 : Int64) (v4 : Int32) (v5 : Int64) (v7 : Int64) (s0 : Int64) (f : HF), DX10_putRounded_85 N v0 v1 v2 v4 v5 v7 s0 f = some r → V l g (fun _ => True) (RX10, cX10_putRounded, 15, (Option.none : Option Jvm.ClassFile.FieldType), [], "putRounded") 2 (roU (.inl r.1) r.2 sz) 85 [(0, .ref v0), (1, .int v1), (2, .long v2), (4, .int v4), (5, .long v5), (7, .long v7)] [.long s0] f sz 0 0 := by
  intro v0 v1 v2 v4 v5 v7 s0 f h
  unfold DX10_putRounded_85 at h
  refine v_lstore (ls1 := [(9, .long s0), (0, .ref v0), (1, .int v1), (2, .long v2), (4, .int v4), (5, .long v5), (7, .long v7)]) dX10_putRounded_85 (by decide) rfl ?_
  refine v_lload_n dX10_putRounded_87 rfl rfl ?_
  refine v_lconst (v := 0) dX10_putRounded_88 (by decide) ?_
  refine v_lcmp_ge (tgt := 106) dX10_putRounded_89 dX10_putRounded_90 (by decide) (fun c23 => ?_) (fun c23 => ?_)
  · replace h := ip_ c23 h
    exact v_sub (vs_c rfl (vs_c rfl (vs_c rfl (vs_c rfl (vs_c rfl (vs_c rfl vs_n)))))) (tX10_putRounded_106 N v0 v1 v4 v5 v7 s0 f h)
  · replace h := in_ c23 h
    refine v_lload dX10_putRounded_93 rfl ?_
    refine v_lconst (v := 0) dX10_putRounded_95 (by decide) ?_
    refine v_lcmp_le (tgt := 106) dX10_putRounded_96 dX10_putRounded_97 (by decide) (fun c22 => ?_) (fun c22 => ?_)
    · replace h := ip_ c22 h
      exact v_sub (vs_c rfl (vs_c rfl (vs_c rfl (vs_c rfl (vs_c rfl (vs_c rfl vs_n)))))) (tX10_putRounded_106 N v0 v1 v4 v5 v7 s0 f h)
    · replace h := in_ c22 h
      refine v_aload_n dX10_putRounded_100 rfl rfl ?_
      refine v_bipush (v := 45) dX10_putRounded_101 (by decide) ?_
      obtain ⟨x19, f21, hx20, h⟩ := bW_some h
      have ehx20 := tX10_put (l := l) (g := g) (sz := sz) N v0 (45 : Int32) f hx20
      refine v_cVU dX10_putRounded_103 ml_X10_183 ok_X10_put ehx20 (kX10_put N v0 (45 : Int32) f hx20) rfl (by decide) rfl (rest := []) rfl (Nat.le_of_ble_eq_true rfl) ?_
      exact v_sub (vs_c rfl (vs_c rfl (vs_c rfl (vs_c rfl (vs_c rfl (vs_c rfl vs_n)))))) (tX10_putRounded_106 N v0 v1 v4 v5 v7 s0 f21 h)

set_option maxRecDepth 20000 in
theorem tX10_putRounded_48 {l : Launch} {g : GT} {sz : Option Nat} (N : Nat)  {r : (Unit × HF)} : ∀ (v0 : Nat) (v1 : Int32) (v2 : Int64) (v4 : Int32) (s0 : Int64) (f : HF), DX10_putRounded_48 N v0 v1 v2 v4 s0 f = some r → V l g (fun _ => True) (RX10, cX10_putRounded, 15, (Option.none : Option Jvm.ClassFile.FieldType), [], "putRounded") 2 (roU (.inl r.1) r.2 sz) 48 [(0, .ref v0), (1, .int v1), (2, .long v2), (4, .int v4)] [.long s0] f sz 0 0 := by
  intro v0 v1 v2 v4 s0 f h
  unfold DX10_putRounded_48 at h
  refine v_lstore (ls1 := [(5, .long s0), (0, .ref v0), (1, .int v1), (2, .long v2), (4, .int v4)]) dX10_putRounded_48 (by decide) rfl ?_
  refine v_lload_n dX10_putRounded_50 rfl rfl ?_
  obtain ⟨x3, hx4, h⟩ := ob_some h
  have ehx4 := tX10_abs (l := l) (g := g) (sz := sz) N v2 f hx4
  refine v_cSL dX10_putRounded_51 ml_X10_213 ok_X10_abs ehx4 (by decide) rfl (rest := []) rfl (Nat.le_of_ble_eq_true rfl) ?_
  refine v_lload dX10_putRounded_54 rfl ?_
  refine v_ldc2 dX10_putRounded_56 kc_X10_164 ?_
  refine v_ldiv dX10_putRounded_59 (by decide) ?_
  refine v_ladd dX10_putRounded_60 ?_
  refine v_lload dX10_putRounded_61 rfl ?_
  obtain ⟨hz, h⟩ := if_some h
  refine v_ldiv dX10_putRounded_63 hz ?_
  refine v_lstore (ls1 := [(7, .long ((x3 + (s0 / (2 : Int64))) / s0)), (5, .long s0), (0, .ref v0), (1, .int v1), (2, .long v2), (4, .int v4)]) dX10_putRounded_64 (by decide) rfl ?_
  refine v_iload dX10_putRounded_66 rfl ?_
  refine v_if_ne (tgt := 76) dX10_putRounded_68 (by decide) (fun c24 => ?_) (fun c24 => ?_)
  · replace h := in_ c24 h
    refine v_lload dX10_putRounded_76 rfl ?_
    refine v_ldc2 dX10_putRounded_78 kc_X10_170 ?_
    refine v_lload dX10_putRounded_81 rfl ?_
    obtain ⟨hz, h⟩ := if_some h
    refine v_ldiv dX10_putRounded_83 hz ?_
    obtain ⟨hz, h⟩ := if_some h
    refine v_ldiv dX10_putRounded_84 hz ?_
    exact v_sub (vs_c rfl (vs_c rfl (vs_c rfl (vs_c rfl (vs_c rfl (vs_c rfl vs_n)))))) (tX10_putRounded_85 N v0 v1 v2 v4 s0 ((x3 + (s0 / (2 : Int64))) / s0) (((x3 + (s0 / (2 : Int64))) / s0) / ((1000 : Int64) / s0)) f h)
  · replace h := ip_ c24 h
    refine v_lload dX10_putRounded_71 rfl ?_
    refine v_goto (tgt := 85) dX10_putRounded_73 (by decide) ?_
    exact v_sub (vs_c rfl (vs_c rfl (vs_c rfl (vs_c rfl (vs_c rfl (vs_c rfl vs_n)))))) (tX10_putRounded_85 N v0 v1 v2 v4 s0 ((x3 + (s0 / (2 : Int64))) / s0) ((x3 + (s0 / (2 : Int64))) / s0) f h)

set_option maxRecDepth 20000 in
theorem kX10_putRounded (N : Nat) (this : Nat) (p0 : Int32) (p1 : Int64) (f : HF) {r : (Unit × HF)} (h : DX10_putRounded N this p0 p1 f = some r) : ck f this 9 = some () := by
  unfold DX10_putRounded at h
  obtain ⟨_, hck, _⟩ := ob_some h
  exact hck

set_option maxRecDepth 20000 in
theorem tX10_putRounded {l : Launch} {g : GT} {sz : Option Nat} (N : Nat) (this : Nat) (p0 : Int32) (p1 : Int64) (f : HF) {r : (Unit × HF)} (h : DX10_putRounded N this p0 p1 f = some r) : Mt l g yX10_putRounded cX10_putRounded 15 (Option.none : Option Jvm.ClassFile.FieldType) 2 [.ref this, .int p0, .long p1] f sz (roU (.inl r.1) r.2 sz) := by
  unfold DX10_putRounded at h
  obtain ⟨_, hck, h⟩ := ob_some h
  refine mt_of (by decide) (Nat.le_of_ble_eq_true rfl) (?_ : V l g (fun _ => True) (RX10, cX10_putRounded, 15, (Option.none : Option Jvm.ClassFile.FieldType), [], "putRounded") 2 (roU (.inl r.1) r.2 sz) 0 [(0, .ref this), (1, .int p0), (2, .long p1)] [] f sz 0 0)
  refine v_aload_n dX10_putRounded_0 rfl rfl ?_
  obtain ⟨x1, hx1, h⟩ := ob_some h
  refine v_getR dX10_putRounded_1 fl_X10_50 hx1 ?_
  refine v_iconst (v := 5) dX10_putRounded_4 (by decide) ?_
  refine v_iload_n dX10_putRounded_5 rfl rfl ?_
  refine v_imul dX10_putRounded_6 ?_
  refine v_iconst (v := 3) dX10_putRounded_7 (by decide) ?_
  refine v_iadd dX10_putRounded_8 ?_
  obtain ⟨x2, hx2, h⟩ := ob_some h
  refine v_iald dX10_putRounded_9 hx2 ?_
  refine v_istore (ls1 := [(4, .int x2), (0, .ref this), (1, .int p0), (2, .long p1)]) dX10_putRounded_10 (by decide) rfl ?_
  refine v_iload dX10_putRounded_12 rfl ?_
  refine v_if_ne (tgt := 23) dX10_putRounded_14 (by decide) (fun c27 => ?_) (fun c27 => ?_)
  · replace h := in_ c27 h
    refine v_iload dX10_putRounded_23 rfl ?_
    refine v_iconst (v := 1) dX10_putRounded_25 (by decide) ?_
    refine v_icmp_ne (tgt := 35) dX10_putRounded_26 (by decide) (fun c26 => ?_) (fun c26 => ?_)
    · replace h := in_ c26 h
      refine v_iload dX10_putRounded_35 rfl ?_
      refine v_iconst (v := 2) dX10_putRounded_37 (by decide) ?_
      refine v_icmp_ne (tgt := 47) dX10_putRounded_38 (by decide) (fun c25 => ?_) (fun c25 => ?_)
      · replace h := in_ c25 h
        refine v_lconst (v := 1) dX10_putRounded_47 (by decide) ?_
        exact v_sub (vs_c rfl (vs_c rfl (vs_c rfl (vs_c rfl vs_n)))) (tX10_putRounded_48 N this p0 p1 x2 (1 : Int64) f h)
      · replace h := ip_ c25 h
        refine v_ldc2 dX10_putRounded_41 kc_X10_176 ?_
        refine v_goto (tgt := 48) dX10_putRounded_44 (by decide) ?_
        exact v_sub (vs_c rfl (vs_c rfl (vs_c rfl (vs_c rfl vs_n)))) (tX10_putRounded_48 N this p0 p1 x2 (10 : Int64) f h)
    · replace h := ip_ c26 h
      refine v_ldc2 dX10_putRounded_29 kc_X10_191 ?_
      refine v_goto (tgt := 48) dX10_putRounded_32 (by decide) ?_
      exact v_sub (vs_c rfl (vs_c rfl (vs_c rfl (vs_c rfl vs_n)))) (tX10_putRounded_48 N this p0 p1 x2 (100 : Int64) f h)
  · replace h := ip_ c27 h
    refine v_ldc2 dX10_putRounded_17 kc_X10_170 ?_
    refine v_goto (tgt := 48) dX10_putRounded_20 (by decide) ?_
    exact v_sub (vs_c rfl (vs_c rfl (vs_c rfl (vs_c rfl vs_n)))) (tX10_putRounded_48 N this p0 p1 x2 (1000 : Int64) f h)

/-! X10 putSigns (W) -/
def DX10_putSigns_2 (N : Nat)  (n : Nat) (v0 : Nat) (v1 : Int32) (v2 : Int32) (f : HF) : Option (Unit × HF) :=
  match n with
  | 0 => none
  | n + 1 =>
    (gR f v0 9 11).bind fun x1 =>
    (aI f x1 0 v1).bind fun x2 =>
    if x2 ≤ v2 then
      some ((), f)
    else
      (gR f v0 9 10).bind fun x3 =>
      (aI f x3 0 (((30 : Int32) * v1) + v2)).bind fun x4 =>
      bW (DX10_put N v0 x4 f) fun x5 f7 =>
      DX10_putSigns_2 N n v0 v1 (v2 + 1) f7

def DX10_putSigns (N : Nat) (this : Nat) (p0 : Int32) (f : HF) : Option (Unit × HF) :=
  (ck f this 9).bind fun _ =>
  DX10_putSigns_2 N N this p0 (0 : Int32) f

set_option maxRecDepth 20000 in
theorem tX10_putSigns_2 {l : Launch} {g : GT} {sz : Option Nat} (N : Nat)  {r : (Unit × HF)} : ∀ (n : Nat), ∀ (v0 : Nat) (v1 : Int32) (v2 : Int32) (f : HF), DX10_putSigns_2 N n v0 v1 v2 f = some r → V l g (fun _ => True) (RX10, cX10_putSigns, 3, (Option.none : Option Jvm.ClassFile.FieldType), [], "putSigns") 1 (roU (.inl r.1) r.2 sz) 2 [(0, .ref v0), (1, .int v1), (2, .int v2)] [] f sz 0 0 := by
  intro n
  induction n with
  | zero => intro v0 v1 v2 f h; cases h
  | succ n ih =>
    intro v0 v1 v2 f h
    rw [DX10_putSigns_2] at h
    refine v_iload_n dX10_putSigns_2 rfl rfl ?_
    refine v_aload_n dX10_putSigns_3 rfl rfl ?_
    obtain ⟨x1, hx1, h⟩ := ob_some h
    refine v_getR dX10_putSigns_4 fl_X10_38 hx1 ?_
    refine v_iload_n dX10_putSigns_7 rfl rfl ?_
    obtain ⟨x2, hx2, h⟩ := ob_some h
    refine v_iald dX10_putSigns_8 hx2 ?_
    refine v_icmp_ge (tgt := 33) dX10_putSigns_9 (by decide) (fun c8 => ?_) (fun c8 => ?_)
    · replace h := ip_ c8 h
      obtain rfl := Option.some.inj h
      exact v_vret dX10_putSigns_33 rfl rfl
    · replace h := in_ c8 h
      refine v_aload_n dX10_putSigns_12 rfl rfl ?_
      refine v_aload_n dX10_putSigns_13 rfl rfl ?_
      obtain ⟨x3, hx3, h⟩ := ob_some h
      refine v_getR dX10_putSigns_14 fl_X10_35 hx3 ?_
      refine v_bipush (v := 30) dX10_putSigns_17 (by decide) ?_
      refine v_iload_n dX10_putSigns_19 rfl rfl ?_
      refine v_imul dX10_putSigns_20 ?_
      refine v_iload_n dX10_putSigns_21 rfl rfl ?_
      refine v_iadd dX10_putSigns_22 ?_
      obtain ⟨x4, hx4, h⟩ := ob_some h
      refine v_iald dX10_putSigns_23 hx4 ?_
      obtain ⟨x5, f7, hx6, h⟩ := bW_some h
      have ehx6 := tX10_put (l := l) (g := g) (sz := sz) N v0 x4 f hx6
      refine v_cVU dX10_putSigns_24 ml_X10_183 ok_X10_put ehx6 (kX10_put N v0 x4 f hx6) rfl (by decide) rfl (rest := []) rfl (Nat.le_of_ble_eq_true rfl) ?_
      refine v_iinc (v := (v2 + 1)) (ls1 := [(2, .int (v2 + 1)), (0, .ref v0), (1, .int v1)]) dX10_putSigns_27 rfl rfl (by decide) rfl ?_
      refine v_goto (tgt := 2) dX10_putSigns_30 (by decide) ?_
      exact v_sub (vs_c rfl (vs_c rfl (vs_c rfl vs_n))) (ih v0 v1 (v2 + 1) f7 h)

set_option maxRecDepth 20000 in
theorem kX10_putSigns (N : Nat) (this : Nat) (p0 : Int32) (f : HF) {r : (Unit × HF)} (h : DX10_putSigns N this p0 f = some r) : ck f this 9 = some () := by
  unfold DX10_putSigns at h
  obtain ⟨_, hck, _⟩ := ob_some h
  exact hck

set_option maxRecDepth 20000 in
theorem tX10_putSigns {l : Launch} {g : GT} {sz : Option Nat} (N : Nat) (this : Nat) (p0 : Int32) (f : HF) {r : (Unit × HF)} (h : DX10_putSigns N this p0 f = some r) : Mt l g yX10_putSigns cX10_putSigns 3 (Option.none : Option Jvm.ClassFile.FieldType) 1 [.ref this, .int p0] f sz (roU (.inl r.1) r.2 sz) := by
  unfold DX10_putSigns at h
  obtain ⟨_, hck, h⟩ := ob_some h
  refine mt_of (by decide) (Nat.le_of_ble_eq_true rfl) (?_ : V l g (fun _ => True) (RX10, cX10_putSigns, 3, (Option.none : Option Jvm.ClassFile.FieldType), [], "putSigns") 1 (roU (.inl r.1) r.2 sz) 0 [(0, .ref this), (1, .int p0)] [] f sz 0 0)
  refine v_iconst (v := 0) dX10_putSigns_0 (by decide) ?_
  refine v_istore_n (ls1 := [(2, .int (0 : Int32)), (0, .ref this), (1, .int p0)]) dX10_putSigns_1 rfl (by decide) rfl ?_
  exact v_sub (vs_c rfl (vs_c rfl (vs_c rfl vs_n))) (tX10_putSigns_2 N N this p0 (0 : Int32) f h)

/-! X10 show (W) -/
def DX10_show_94 (N : Nat)  (v0 : Nat) (v1 : Int32) (f : HF) : Option (Unit × HF) :=
    (DX10_isPicked N v0 v1 f).bind fun x8 =>
    if x8 = 0 then
      some ((), f)
    else
      (gR f v0 9 12).bind fun x10 =>
      (aI f x10 0 v1).bind fun x11 =>
      if x11 < 0 then
        some ((), f)
      else
        (gR f v0 9 13).bind fun x12 =>
        (gR f v0 9 12).bind fun x13 =>
        (aI f x13 0 v1).bind fun x14 =>
        (aI f x12 0 (((12 : Int32) * v1) + x14)).bind fun x15 =>
        bW (DX10_putNumber N v0 (x15.toInt64) (0 : Int32) f) fun x16 f18 =>
        some ((), f18)

def DX10_show_49 (N : Nat)  (v0 : Nat) (v1 : Int32) (f : HF) : Option (Unit × HF) :=
    (DX10_isSigned N v0 v1 f).bind fun x4 =>
    if x4 = 0 then
      (gR f v0 9 2).bind fun x6 =>
      (aI f x6 0 v1).bind fun x7 =>
      if x7 = (2 : Int32) then
        (gR f v0 9 12).bind fun x21 =>
        (aI f x21 0 v1).bind fun x22 =>
        if x22 = (1 : Int32) then
          bW (DX10_put N v0 (88 : Int32) f) fun x23 f25 =>
          some ((), f25)
        else
          DX10_show_94 N v0 v1 f
      else
        DX10_show_94 N v0 v1 f
    else
      bW (DX10_putSigns N v0 v1 f) fun x28 f30 =>
      some ((), f30)

def DX10_show (N : Nat) (this : Nat) (p0 : Int32) (f : HF) : Option (Unit × HF) :=
  (ck f this 9).bind fun _ =>
  (pV f this 9 28 (.int (0 : Int32))).bind fun f1 =>
  (gR f1 this 9 2).bind fun x2 =>
  (aI f1 x2 0 p0).bind fun x3 =>
  if x3 = (5 : Int32) then
    (gR f1 this 9 11).bind fun x32 =>
    (aI f1 x32 0 p0).bind fun x33 =>
    if x33 ≤ 0 then
      DX10_show_49 N this p0 f1
    else
      (DX10_amountOf N this p0 f1).bind fun x34 =>
      if x34 = (9000000000000000000 : Int64) then
        DX10_show_49 N this p0 f1
      else
        (DX10_amountOf N this p0 f1).bind fun x36 =>
        bW (DX10_putRounded N this p0 x36 f1) fun x38 f40 =>
        some ((), f40)
  else
    DX10_show_49 N this p0 f1

set_option maxRecDepth 20000 in
theorem tX10_show_94 {l : Launch} {g : GT} {sz : Option Nat} (N : Nat)  {r : (Unit × HF)} : ∀ (v0 : Nat) (v1 : Int32) (f : HF), DX10_show_94 N v0 v1 f = some r → V l g (fun _ => True) (RX10, cX10_show, 2, (Option.none : Option Jvm.ClassFile.FieldType), [], "show") 3 (roU (.inl r.1) r.2 sz) 94 [(0, .ref v0), (1, .int v1)] [] f sz 0 0 := by
  intro v0 v1 f h
  unfold DX10_show_94 at h
  refine v_aload_n dX10_show_94 rfl rfl ?_
  refine v_iload_n dX10_show_95 rfl rfl ?_
  obtain ⟨x8, hx9, h⟩ := ob_some h
  have ehx9 := tX10_isPicked (l := l) (g := g) (sz := sz) N v0 v1 f hx9
  refine v_cVI dX10_show_96 ml_X10_146 ok_X10_isPicked ehx9 (kX10_isPicked N v0 v1 f hx9) rfl (by decide) rfl (rest := []) rfl (Nat.le_of_ble_eq_true rfl) ?_
  refine v_if_eq (tgt := 133) dX10_show_99 (by decide) (fun c20 => ?_) (fun c20 => ?_)
  · replace h := ip_ c20 h
    obtain rfl := Option.some.inj h
    exact v_vret dX10_show_133 rfl rfl
  · replace h := in_ c20 h
    refine v_aload_n dX10_show_102 rfl rfl ?_
    obtain ⟨x10, hx10, h⟩ := ob_some h
    refine v_getR dX10_show_103 fl_X10_41 hx10 ?_
    refine v_iload_n dX10_show_106 rfl rfl ?_
    obtain ⟨x11, hx11, h⟩ := ob_some h
    refine v_iald dX10_show_107 hx11 ?_
    refine v_if_lt (tgt := 133) dX10_show_108 (by decide) (fun c19 => ?_) (fun c19 => ?_)
    · replace h := ip_ c19 h
      obtain rfl := Option.some.inj h
      exact v_vret dX10_show_133 rfl rfl
    · replace h := in_ c19 h
      refine v_aload_n dX10_show_111 rfl rfl ?_
      refine v_aload_n dX10_show_112 rfl rfl ?_
      obtain ⟨x12, hx12, h⟩ := ob_some h
      refine v_getR dX10_show_113 fl_X10_44 hx12 ?_
      refine v_bipush (v := 12) dX10_show_116 (by decide) ?_
      refine v_iload_n dX10_show_118 rfl rfl ?_
      refine v_imul dX10_show_119 ?_
      refine v_aload_n dX10_show_120 rfl rfl ?_
      obtain ⟨x13, hx13, h⟩ := ob_some h
      refine v_getR dX10_show_121 fl_X10_41 hx13 ?_
      refine v_iload_n dX10_show_124 rfl rfl ?_
      obtain ⟨x14, hx14, h⟩ := ob_some h
      refine v_iald dX10_show_125 hx14 ?_
      refine v_iadd dX10_show_126 ?_
      obtain ⟨x15, hx15, h⟩ := ob_some h
      refine v_iald dX10_show_127 hx15 ?_
      refine v_i2l dX10_show_128 ?_
      refine v_iconst (v := 0) dX10_show_129 (by decide) ?_
      obtain ⟨x16, f18, hx17, h⟩ := bW_some h
      have ehx17 := tX10_putNumber (l := l) (g := g) (sz := sz) N v0 (x15.toInt64) (0 : Int32) f hx17
      refine v_cVU dX10_show_130 ml_X10_187 ok_X10_putNumber ehx17 (kX10_putNumber N v0 (x15.toInt64) (0 : Int32) f hx17) rfl (by decide) rfl (rest := []) rfl (Nat.le_of_ble_eq_true rfl) ?_
      obtain rfl := Option.some.inj h
      exact v_vret dX10_show_133 rfl rfl

set_option maxRecDepth 20000 in
theorem tX10_show_49 {l : Launch} {g : GT} {sz : Option Nat} (N : Nat)  {r : (Unit × HF)} : ∀ (v0 : Nat) (v1 : Int32) (f : HF), DX10_show_49 N v0 v1 f = some r → V l g (fun _ => True) (RX10, cX10_show, 2, (Option.none : Option Jvm.ClassFile.FieldType), [], "show") 3 (roU (.inl r.1) r.2 sz) 49 [(0, .ref v0), (1, .int v1)] [] f sz 0 0 := by
  intro v0 v1 f h
  unfold DX10_show_49 at h
  refine v_aload_n dX10_show_49 rfl rfl ?_
  refine v_iload_n dX10_show_50 rfl rfl ?_
  obtain ⟨x4, hx5, h⟩ := ob_some h
  have ehx5 := tX10_isSigned (l := l) (g := g) (sz := sz) N v0 v1 f hx5
  refine v_cVI dX10_show_51 ml_X10_140 ok_X10_isSigned ehx5 (kX10_isSigned N v0 v1 f hx5) rfl (by decide) rfl (rest := []) rfl (Nat.le_of_ble_eq_true rfl) ?_
  refine v_if_eq (tgt := 65) dX10_show_54 (by decide) (fun c31 => ?_) (fun c31 => ?_)
  · replace h := ip_ c31 h
    refine v_aload_n dX10_show_65 rfl rfl ?_
    obtain ⟨x6, hx6, h⟩ := ob_some h
    refine v_getR dX10_show_66 fl_X10_7 hx6 ?_
    refine v_iload_n dX10_show_69 rfl rfl ?_
    obtain ⟨x7, hx7, h⟩ := ob_some h
    refine v_iald dX10_show_70 hx7 ?_
    refine v_iconst (v := 2) dX10_show_71 (by decide) ?_
    refine v_icmp_ne (tgt := 94) dX10_show_72 (by decide) (fun c27 => ?_) (fun c27 => ?_)
    · replace h := in_ c27 h
      exact v_sub (vs_c rfl (vs_c rfl vs_n)) (tX10_show_94 N v0 v1 f h)
    · replace h := ip_ c27 h
      refine v_aload_n dX10_show_75 rfl rfl ?_
      obtain ⟨x21, hx21, h⟩ := ob_some h
      refine v_getR dX10_show_76 fl_X10_41 hx21 ?_
      refine v_iload_n dX10_show_79 rfl rfl ?_
      obtain ⟨x22, hx22, h⟩ := ob_some h
      refine v_iald dX10_show_80 hx22 ?_
      refine v_iconst (v := 1) dX10_show_81 (by decide) ?_
      refine v_icmp_ne (tgt := 94) dX10_show_82 (by decide) (fun c26 => ?_) (fun c26 => ?_)
      · replace h := in_ c26 h
        exact v_sub (vs_c rfl (vs_c rfl vs_n)) (tX10_show_94 N v0 v1 f h)
      · replace h := ip_ c26 h
        refine v_aload_n dX10_show_85 rfl rfl ?_
        refine v_bipush (v := 88) dX10_show_86 (by decide) ?_
        obtain ⟨x23, f25, hx24, h⟩ := bW_some h
        have ehx24 := tX10_put (l := l) (g := g) (sz := sz) N v0 (88 : Int32) f hx24
        refine v_cVU dX10_show_88 ml_X10_183 ok_X10_put ehx24 (kX10_put N v0 (88 : Int32) f hx24) rfl (by decide) rfl (rest := []) rfl (Nat.le_of_ble_eq_true rfl) ?_
        refine v_goto (tgt := 133) dX10_show_91 (by decide) ?_
        obtain rfl := Option.some.inj h
        exact v_vret dX10_show_133 rfl rfl
  · replace h := in_ c31 h
    refine v_aload_n dX10_show_57 rfl rfl ?_
    refine v_iload_n dX10_show_58 rfl rfl ?_
    obtain ⟨x28, f30, hx29, h⟩ := bW_some h
    have ehx29 := tX10_putSigns (l := l) (g := g) (sz := sz) N v0 v1 f hx29
    refine v_cVU dX10_show_59 ml_X10_253 ok_X10_putSigns ehx29 (kX10_putSigns N v0 v1 f hx29) rfl (by decide) rfl (rest := []) rfl (Nat.le_of_ble_eq_true rfl) ?_
    refine v_goto (tgt := 133) dX10_show_62 (by decide) ?_
    obtain rfl := Option.some.inj h
    exact v_vret dX10_show_133 rfl rfl

set_option maxRecDepth 20000 in
theorem kX10_show (N : Nat) (this : Nat) (p0 : Int32) (f : HF) {r : (Unit × HF)} (h : DX10_show N this p0 f = some r) : ck f this 9 = some () := by
  unfold DX10_show at h
  obtain ⟨_, hck, _⟩ := ob_some h
  exact hck

set_option maxRecDepth 20000 in
theorem tX10_show {l : Launch} {g : GT} {sz : Option Nat} (N : Nat) (this : Nat) (p0 : Int32) (f : HF) {r : (Unit × HF)} (h : DX10_show N this p0 f = some r) : Mt l g yX10_show cX10_show 2 (Option.none : Option Jvm.ClassFile.FieldType) 3 [.ref this, .int p0] f sz (roU (.inl r.1) r.2 sz) := by
  unfold DX10_show at h
  obtain ⟨_, hck, h⟩ := ob_some h
  refine mt_of (by decide) (Nat.le_of_ble_eq_true rfl) (?_ : V l g (fun _ => True) (RX10, cX10_show, 2, (Option.none : Option Jvm.ClassFile.FieldType), [], "show") 3 (roU (.inl r.1) r.2 sz) 0 [(0, .ref this), (1, .int p0)] [] f sz 0 0)
  refine v_aload_n dX10_show_0 rfl rfl ?_
  refine v_iconst (v := 0) dX10_show_1 (by decide) ?_
  obtain ⟨f1, hf1, h⟩ := ob_some h
  refine v_pI dX10_show_2 fp_X10_180 hf1 ?_
  refine v_aload_n dX10_show_5 rfl rfl ?_
  obtain ⟨x2, hx2, h⟩ := ob_some h
  refine v_getR dX10_show_6 fl_X10_7 hx2 ?_
  refine v_iload_n dX10_show_9 rfl rfl ?_
  obtain ⟨x3, hx3, h⟩ := ob_some h
  refine v_iald dX10_show_10 hx3 ?_
  refine v_iconst (v := 5) dX10_show_11 (by decide) ?_
  refine v_icmp_ne (tgt := 49) dX10_show_12 (by decide) (fun c43 => ?_) (fun c43 => ?_)
  · replace h := in_ c43 h
    exact v_sub (vs_c rfl (vs_c rfl vs_n)) (tX10_show_49 N this p0 f1 h)
  · replace h := ip_ c43 h
    refine v_aload_n dX10_show_15 rfl rfl ?_
    obtain ⟨x32, hx32, h⟩ := ob_some h
    refine v_getR dX10_show_16 fl_X10_38 hx32 ?_
    refine v_iload_n dX10_show_19 rfl rfl ?_
    obtain ⟨x33, hx33, h⟩ := ob_some h
    refine v_iald dX10_show_20 hx33 ?_
    refine v_if_le (tgt := 49) dX10_show_21 (by decide) (fun c42 => ?_) (fun c42 => ?_)
    · replace h := ip_ c42 h
      exact v_sub (vs_c rfl (vs_c rfl vs_n)) (tX10_show_49 N this p0 f1 h)
    · replace h := in_ c42 h
      refine v_aload_n dX10_show_24 rfl rfl ?_
      refine v_iload_n dX10_show_25 rfl rfl ?_
      obtain ⟨x34, hx35, h⟩ := ob_some h
      have ehx35 := tX10_amountOf (l := l) (g := g) (sz := sz) N this p0 f1 hx35
      refine v_cVL dX10_show_26 ml_X10_209 ok_X10_amountOf ehx35 (kX10_amountOf N this p0 f1 hx35) rfl (by decide) rfl (rest := []) rfl (Nat.le_of_ble_eq_true rfl) ?_
      refine v_ldc2 dX10_show_29 kc_X10_178 ?_
      refine v_lcmp_eq (tgt := 49) dX10_show_32 dX10_show_33 (by decide) (fun c41 => ?_) (fun c41 => ?_)
      · replace h := ip_ c41 h
        exact v_sub (vs_c rfl (vs_c rfl vs_n)) (tX10_show_49 N this p0 f1 h)
      · replace h := in_ c41 h
        refine v_aload_n dX10_show_36 rfl rfl ?_
        refine v_iload_n dX10_show_37 rfl rfl ?_
        refine v_aload_n dX10_show_38 rfl rfl ?_
        refine v_iload_n dX10_show_39 rfl rfl ?_
        obtain ⟨x36, hx37, h⟩ := ob_some h
        have ehx37 := tX10_amountOf (l := l) (g := g) (sz := sz) N this p0 f1 hx37
        refine v_cVL dX10_show_40 ml_X10_209 ok_X10_amountOf ehx37 (kX10_amountOf N this p0 f1 hx37) rfl (by decide) rfl (rest := [.int p0, .ref this]) rfl (Nat.le_of_ble_eq_true rfl) ?_
        obtain ⟨x38, f40, hx39, h⟩ := bW_some h
        have ehx39 := tX10_putRounded (l := l) (g := g) (sz := sz) N this p0 x36 f1 hx39
        refine v_cVU dX10_show_43 ml_X10_249 ok_X10_putRounded ehx39 (kX10_putRounded N this p0 x36 f1 hx39) rfl (by decide) rfl (rest := []) rfl (Nat.le_of_ble_eq_true rfl) ?_
        refine v_goto (tgt := 133) dX10_show_46 (by decide) ?_
        obtain rfl := Option.some.inj h
        exact v_vret dX10_show_133 rfl rfl

