/-! X8 addFullName (WT) -/
def DX8_addFullName_104 (N : Nat) (k69 : Nat → Int32 → HF → Option ((Unit ⊕ String) × HF)) (v0 : Nat) (v3 : Int32) (f : HF) : Option ((Unit ⊕ String) × HF) :=
    k69 v0 (v3 + (-1)) f

def DX8_addFullName_69 (N : Nat)  (n : Nat) (v0 : Nat) (v3 : Int32) (f : HF) : Option ((Unit ⊕ String) × HF) :=
  match n with
  | 0 => none
  | n + 1 =>
    if v3 < 0 then
      some (.inl (), f)
    else
      (gR f v0 7 2).bind fun x8 =>
      (DX5_get N x8 v3 f).bind fun x9 =>
      (gR f v0 7 1).bind fun x11 =>
      bW (DX0_addNumber N (x9.toInt64) (0 : Int32) x11 f) fun x12 f14 =>
      if v3 ≤ 0 then
        DX8_addFullName_104 N (DX8_addFullName_69 N n) v0 v3 f14
      else
        (gR f14 v0 7 1).bind fun x15 =>
        bW (DX5_add N x15 (46 : Int32) f14) fun x16 f18 =>
        DX8_addFullName_104 N (DX8_addFullName_69 N n) v0 v3 f18

def DX8_addFullName_59 (N : Nat)  (v0 : Nat) (f : HF) : Option ((Unit ⊕ String) × HF) :=
    (gR f v0 7 2).bind fun x5 =>
    (DX5_count N x5 f).bind fun x6 =>
    DX8_addFullName_69 N N v0 (x6 - (1 : Int32)) f

def DX8_addFullName_11 (N : Nat)  (n : Nat) (v0 : Nat) (v2 : Int32) (v3 : Int32) (f : HF) : Option ((Unit ⊕ String) × HF) :=
  match n with
  | 0 => none
  | n + 1 =>
    if (40 : Int32) ≤ v3 then
      DX8_addFullName_59 N v0 f
    else
      if v2 = (-1 : Int32) then
        DX8_addFullName_59 N v0 f
      else
        (gR f v0 7 2).bind fun x21 =>
        (gR f v0 7 0).bind fun x22 =>
        bRW (DX6_get N x22 v2 f) f fun x23 =>
        (gI f x23 1 3).bind fun x25 =>
        bW (DX5_add N x21 x25 f) fun x26 f28 =>
        (gR f28 v0 7 0).bind fun x29 =>
        bRW (DX6_get N x29 v2 f28) f28 fun x30 =>
        (gI f28 x30 1 2).bind fun x32 =>
        DX8_addFullName_11 N n v0 x32 (v3 + 1) f28

def DX8_addFullName (N : Nat) (this : Nat) (p0 : Int32) (f : HF) : Option ((Unit ⊕ String) × HF) :=
  (ck f this 7).bind fun _ =>
  (gR f this 7 2).bind fun x1 =>
  bW (DX5_clear N x1 f) fun x2 f4 =>
  DX8_addFullName_11 N N this p0 (0 : Int32) f4

set_option maxRecDepth 20000 in
theorem tX8_addFullName_104 {l : Launch} {g : GT} {sz : Option Nat} (N : Nat) (k69 : Nat → Int32 → HF → Option ((Unit ⊕ String) × HF)) {r : ((Unit ⊕ String) × HF)} (hk69 : ∀ (w0 : Nat) (w3 : Int32) (f : HF), k69 w0 w3 f = some r → V l g (fun _ => True) (RX8, cX8_addFullName, 4, (Option.none : Option Jvm.ClassFile.FieldType), [], "addFullName") 9 (roU r.1 r.2 sz) 69 [(0, .ref w0), (3, .int w3)] [] f sz 0 0) : ∀ (v0 : Nat) (v3 : Int32) (f : HF), DX8_addFullName_104 N k69 v0 v3 f = some r → V l g (fun _ => True) (RX8, cX8_addFullName, 4, (Option.none : Option Jvm.ClassFile.FieldType), [], "addFullName") 9 (roU r.1 r.2 sz) 104 [(0, .ref v0), (3, .int v3)] [] f sz 0 0 := by
  intro v0 v3 f h
  unfold DX8_addFullName_104 at h
  refine v_iinc (v := (v3 + (-1))) (ls1 := [(3, .int (v3 + (-1))), (0, .ref v0)]) dX8_addFullName_104 rfl rfl (by decide) rfl ?_
  refine v_goto (tgt := 69) dX8_addFullName_107 (by decide) ?_
  exact v_sub (vs_c rfl (vs_c rfl vs_n)) (hk69 v0 (v3 + (-1)) f h)

set_option maxRecDepth 20000 in
theorem tX8_addFullName_69 {l : Launch} {g : GT} {sz : Option Nat} (N : Nat)  {r : ((Unit ⊕ String) × HF)} : ∀ (n : Nat), ∀ (v0 : Nat) (v3 : Int32) (f : HF), DX8_addFullName_69 N n v0 v3 f = some r → V l g (fun _ => True) (RX8, cX8_addFullName, 4, (Option.none : Option Jvm.ClassFile.FieldType), [], "addFullName") 9 (roU r.1 r.2 sz) 69 [(0, .ref v0), (3, .int v3)] [] f sz 0 0 := by
  intro n
  induction n with
  | zero => intro v0 v3 f h; cases h
  | succ n ih =>
    intro v0 v3 f h
    rw [DX8_addFullName_69] at h
    refine v_iload_n dX8_addFullName_69 rfl rfl ?_
    refine v_if_lt (tgt := 110) dX8_addFullName_70 (by decide) (fun c20 => ?_) (fun c20 => ?_)
    · replace h := ip_ c20 h
      obtain rfl := Option.some.inj h
      exact v_vret dX8_addFullName_110 rfl rfl
    · replace h := in_ c20 h
      refine v_aload_n dX8_addFullName_73 rfl rfl ?_
      obtain ⟨x8, hx8, h⟩ := ob_some h
      refine v_getR dX8_addFullName_74 fl_X8_20 hx8 ?_
      refine v_iload_n dX8_addFullName_77 rfl rfl ?_
      obtain ⟨x9, hx10, h⟩ := ob_some h
      have ehx10 := tX5_get (l := l) (g := g) (sz := sz) N x8 v3 f hx10
      refine v_cVI dX8_addFullName_78 ml_X8_64 ok_X5_get ehx10 (kX5_get N x8 v3 f hx10) rfl (by decide) rfl (rest := []) rfl (Nat.le_of_ble_eq_true rfl) ?_
      refine v_i2l dX8_addFullName_81 ?_
      refine v_iconst (v := 0) dX8_addFullName_82 (by decide) ?_
      refine v_aload_n dX8_addFullName_83 rfl rfl ?_
      obtain ⟨x11, hx11, h⟩ := ob_some h
      refine v_getR dX8_addFullName_84 fl_X8_14 hx11 ?_
      obtain ⟨x12, f14, hx13, h⟩ := bW_some h
      have ehx13 := tX0_addNumber (l := l) (g := g) (sz := sz) N (x9.toInt64) (0 : Int32) x11 f hx13
      refine v_cSU dX8_addFullName_87 ml_X8_67 ok_X0_addNumber ehx13 (by decide) rfl (rest := []) rfl (Nat.le_of_ble_eq_true rfl) ?_
      refine v_iload_n dX8_addFullName_90 rfl rfl ?_
      refine v_if_le (tgt := 104) dX8_addFullName_91 (by decide) (fun c19 => ?_) (fun c19 => ?_)
      · replace h := ip_ c19 h
        exact v_sub (vs_c rfl (vs_c rfl vs_n)) (tX8_addFullName_104 N (DX8_addFullName_69 N n) ih v0 v3 f14 h)
      · replace h := in_ c19 h
        refine v_aload_n dX8_addFullName_94 rfl rfl ?_
        obtain ⟨x15, hx15, h⟩ := ob_some h
        refine v_getR dX8_addFullName_95 fl_X8_14 hx15 ?_
        refine v_bipush (v := 46) dX8_addFullName_98 (by decide) ?_
        obtain ⟨x16, f18, hx17, h⟩ := bW_some h
        have ehx17 := tX5_add (l := l) (g := g) (sz := sz) N x15 (46 : Int32) f14 hx17
        refine v_cVI dX8_addFullName_100 ml_X8_43 ok_X5_add ehx17 (kX5_add N x15 (46 : Int32) f14 hx17) rfl (by decide) rfl (rest := []) rfl (Nat.le_of_ble_eq_true rfl) ?_
        refine v_pop dX8_addFullName_103 rfl ?_
        exact v_sub (vs_c rfl (vs_c rfl vs_n)) (tX8_addFullName_104 N (DX8_addFullName_69 N n) ih v0 v3 f18 h)

set_option maxRecDepth 20000 in
theorem tX8_addFullName_59 {l : Launch} {g : GT} {sz : Option Nat} (N : Nat)  {r : ((Unit ⊕ String) × HF)} : ∀ (v0 : Nat) (f : HF), DX8_addFullName_59 N v0 f = some r → V l g (fun _ => True) (RX8, cX8_addFullName, 4, (Option.none : Option Jvm.ClassFile.FieldType), [], "addFullName") 9 (roU r.1 r.2 sz) 59 [(0, .ref v0)] [] f sz 0 0 := by
  intro v0 f h
  unfold DX8_addFullName_59 at h
  refine v_aload_n dX8_addFullName_59 rfl rfl ?_
  obtain ⟨x5, hx5, h⟩ := ob_some h
  refine v_getR dX8_addFullName_60 fl_X8_20 hx5 ?_
  obtain ⟨x6, hx7, h⟩ := ob_some h
  have ehx7 := tX5_count (l := l) (g := g) (sz := sz) N x5 f hx7
  refine v_cVI dX8_addFullName_63 ml_X8_54 ok_X5_count ehx7 (kX5_count N x5 f hx7) rfl (by decide) rfl (rest := []) rfl (Nat.le_of_ble_eq_true rfl) ?_
  refine v_iconst (v := 1) dX8_addFullName_66 (by decide) ?_
  refine v_isub dX8_addFullName_67 ?_
  refine v_istore_n (ls1 := [(3, .int (x6 - (1 : Int32))), (0, .ref v0)]) dX8_addFullName_68 rfl (by decide) rfl ?_
  exact v_sub (vs_c rfl (vs_c rfl vs_n)) (tX8_addFullName_69 N N v0 (x6 - (1 : Int32)) f h)

set_option maxRecDepth 20000 in
theorem tX8_addFullName_11 {l : Launch} {g : GT} {sz : Option Nat} (N : Nat)  {r : ((Unit ⊕ String) × HF)} : ∀ (n : Nat), ∀ (v0 : Nat) (v2 : Int32) (v3 : Int32) (f : HF), DX8_addFullName_11 N n v0 v2 v3 f = some r → V l g (fun _ => True) (RX8, cX8_addFullName, 4, (Option.none : Option Jvm.ClassFile.FieldType), [], "addFullName") 9 (roU r.1 r.2 sz) 11 [(0, .ref v0), (2, .int v2), (3, .int v3)] [] f sz 0 0 := by
  intro n
  induction n with
  | zero => intro v0 v2 v3 f h; cases h
  | succ n ih =>
    intro v0 v2 v3 f h
    rw [DX8_addFullName_11] at h
    refine v_iload_n dX8_addFullName_11 rfl rfl ?_
    refine v_bipush (v := 40) dX8_addFullName_12 (by decide) ?_
    refine v_icmp_ge (tgt := 59) dX8_addFullName_14 (by decide) (fun c34 => ?_) (fun c34 => ?_)
    · replace h := ip_ c34 h
      exact v_sub (vs_c rfl vs_n) (tX8_addFullName_59 N v0 f h)
    · replace h := in_ c34 h
      refine v_iload_n dX8_addFullName_17 rfl rfl ?_
      refine v_iconst (v := -1) dX8_addFullName_18 (by decide) ?_
      refine v_icmp_eq (tgt := 59) dX8_addFullName_19 (by decide) (fun c33 => ?_) (fun c33 => ?_)
      · replace h := ip_ c33 h
        exact v_sub (vs_c rfl vs_n) (tX8_addFullName_59 N v0 f h)
      · replace h := in_ c33 h
        refine v_aload_n dX8_addFullName_22 rfl rfl ?_
        obtain ⟨x21, hx21, h⟩ := ob_some h
        refine v_getR dX8_addFullName_23 fl_X8_20 hx21 ?_
        refine v_aload_n dX8_addFullName_26 rfl rfl ?_
        obtain ⟨x22, hx22, h⟩ := ob_some h
        refine v_getR dX8_addFullName_27 fl_X8_23 hx22 ?_
        refine v_iload_n dX8_addFullName_30 rfl rfl ?_
        rcases bRW_some h with ⟨x23, hx24, h⟩ | ⟨e9, hx24, h⟩
        rotate_left
        · cases h
          have ehx24 := tX6_get (l := l) (g := g) (sz := sz) N x22 v2 f hx24
          exact v_cVx dX8_addFullName_31 ml_X8_46 ok_X6_get ehx24 (kX6_get N x22 v2 f hx24) rfl (by decide) rfl (rest := [.ref x21]) rfl (Nat.le_of_ble_eq_true rfl) rfl rfl
        have ehx24 := tX6_get (l := l) (g := g) (sz := sz) N x22 v2 f hx24
        refine v_cVR dX8_addFullName_31 ml_X8_46 ok_X6_get ehx24 (kX6_get N x22 v2 f hx24) rfl (by decide) rfl (rest := [.ref x21]) rfl (Nat.le_of_ble_eq_true rfl) ?_
        obtain ⟨x25, hx25, h⟩ := ob_some h
        refine v_getI dX8_addFullName_34 fl_X8_55 hx25 ?_
        obtain ⟨x26, f28, hx27, h⟩ := bW_some h
        have ehx27 := tX5_add (l := l) (g := g) (sz := sz) N x21 x25 f hx27
        refine v_cVI dX8_addFullName_37 ml_X8_43 ok_X5_add ehx27 (kX5_add N x21 x25 f hx27) rfl (by decide) rfl (rest := []) rfl (Nat.le_of_ble_eq_true rfl) ?_
        refine v_pop dX8_addFullName_40 rfl ?_
        refine v_aload_n dX8_addFullName_41 rfl rfl ?_
        obtain ⟨x29, hx29, h⟩ := ob_some h
        refine v_getR dX8_addFullName_42 fl_X8_23 hx29 ?_
        refine v_iload_n dX8_addFullName_45 rfl rfl ?_
        rcases bRW_some h with ⟨x30, hx31, h⟩ | ⟨e9, hx31, h⟩
        rotate_left
        · cases h
          have ehx31 := tX6_get (l := l) (g := g) (sz := sz) N x29 v2 f28 hx31
          exact v_cVx dX8_addFullName_46 ml_X8_46 ok_X6_get ehx31 (kX6_get N x29 v2 f28 hx31) rfl (by decide) rfl (rest := []) rfl (Nat.le_of_ble_eq_true rfl) rfl rfl
        have ehx31 := tX6_get (l := l) (g := g) (sz := sz) N x29 v2 f28 hx31
        refine v_cVR dX8_addFullName_46 ml_X8_46 ok_X6_get ehx31 (kX6_get N x29 v2 f28 hx31) rfl (by decide) rfl (rest := []) rfl (Nat.le_of_ble_eq_true rfl) ?_
        obtain ⟨x32, hx32, h⟩ := ob_some h
        refine v_getI dX8_addFullName_49 fl_X8_61 hx32 ?_
        refine v_istore_n (ls1 := [(2, .int x32), (0, .ref v0), (3, .int v3)]) dX8_addFullName_52 rfl (by decide) rfl ?_
        refine v_iinc (v := (v3 + 1)) (ls1 := [(3, .int (v3 + 1)), (2, .int x32), (0, .ref v0)]) dX8_addFullName_53 rfl rfl (by decide) rfl ?_
        refine v_goto (tgt := 11) dX8_addFullName_56 (by decide) ?_
        exact v_sub (vs_c rfl (vs_c rfl (vs_c rfl vs_n))) (ih v0 x32 (v3 + 1) f28 h)

set_option maxRecDepth 20000 in
theorem kX8_addFullName (N : Nat) (this : Nat) (p0 : Int32) (f : HF) {r : ((Unit ⊕ String) × HF)} (h : DX8_addFullName N this p0 f = some r) : ck f this 7 = some () := by
  unfold DX8_addFullName at h
  obtain ⟨_, hck, _⟩ := ob_some h
  exact hck

set_option maxRecDepth 20000 in
theorem tX8_addFullName {l : Launch} {g : GT} {sz : Option Nat} (N : Nat) (this : Nat) (p0 : Int32) (f : HF) {r : ((Unit ⊕ String) × HF)} (h : DX8_addFullName N this p0 f = some r) : Mt l g yX8_addFullName cX8_addFullName 4 (Option.none : Option Jvm.ClassFile.FieldType) 9 [.ref this, .int p0] f sz (roU r.1 r.2 sz) := by
  unfold DX8_addFullName at h
  obtain ⟨_, hck, h⟩ := ob_some h
  refine mt_of (by decide) (Nat.le_of_ble_eq_true rfl) (?_ : V l g (fun _ => True) (RX8, cX8_addFullName, 4, (Option.none : Option Jvm.ClassFile.FieldType), [], "addFullName") 9 (roU r.1 r.2 sz) 0 [(0, .ref this), (1, .int p0)] [] f sz 0 0)
  refine v_aload_n dX8_addFullName_0 rfl rfl ?_
  obtain ⟨x1, hx1, h⟩ := ob_some h
  refine v_getR dX8_addFullName_1 fl_X8_20 hx1 ?_
  obtain ⟨x2, f4, hx3, h⟩ := bW_some h
  have ehx3 := tX5_clear (l := l) (g := g) (sz := sz) N x1 f hx3
  refine v_cVU dX8_addFullName_4 ml_X8_27 ok_X5_clear ehx3 (kX5_clear N x1 f hx3) rfl (by decide) rfl (rest := []) rfl (Nat.le_of_ble_eq_true rfl) ?_
  refine v_iload_n dX8_addFullName_7 rfl rfl ?_
  refine v_istore_n (ls1 := [(2, .int p0), (0, .ref this), (1, .int p0)]) dX8_addFullName_8 rfl (by decide) rfl ?_
  refine v_iconst (v := 0) dX8_addFullName_9 (by decide) ?_
  refine v_istore_n (ls1 := [(3, .int (0 : Int32)), (2, .int p0), (0, .ref this), (1, .int p0)]) dX8_addFullName_10 rfl (by decide) rfl ?_
  exact v_sub (vs_c rfl (vs_c rfl (vs_c rfl vs_n))) (tX8_addFullName_11 N N this p0 (0 : Int32) f4 h)

/-! X8 addContent (W) -/
def DX8_addContent (N : Nat) (this : Nat) (p0 : Nat) (f : HF) : Option (Unit × HF) :=
  (ck f this 7).bind fun _ =>
  (DX2_hasSigns N p0 f).bind fun x1 =>
  if x1 = 0 then
    (gI f p0 1 1).bind fun x3 =>
    if x3 = (2 : Int32) then
      (gR f this 7 1).bind fun x17 =>
      (gI f p0 1 10).bind fun x18 =>
      bW (DX5_add N x17 ((48 : Int32) + x18) f) fun x19 f21 =>
      some ((), f21)
    else
      (gR f p0 1 9).bind fun x4 =>
      (gI f p0 1 10).bind fun x5 =>
      (DX5_has N x4 x5 f).bind fun x6 =>
      if x6 = 0 then
        some ((), f)
      else
        (gR f p0 1 9).bind fun x8 =>
        (gI f p0 1 10).bind fun x9 =>
        (DX5_get N x8 x9 f).bind fun x10 =>
        (gR f this 7 1).bind fun x12 =>
        bW (DX0_addNumber N (x10.toInt64) (0 : Int32) x12 f) fun x13 f15 =>
        some ((), f15)
  else
    (gR f this 7 1).bind fun x23 =>
    (gR f p0 1 8).bind fun x24 =>
    (gR f p0 1 8).bind fun x25 =>
    (DX5_count N x25 f).bind fun x26 =>
    bW (DX5_addAll N x23 x24 (0 : Int32) x26 f) fun x28 f30 =>
    some ((), f30)

set_option maxRecDepth 20000 in
theorem kX8_addContent (N : Nat) (this : Nat) (p0 : Nat) (f : HF) {r : (Unit × HF)} (h : DX8_addContent N this p0 f = some r) : ck f this 7 = some () := by
  unfold DX8_addContent at h
  obtain ⟨_, hck, _⟩ := ob_some h
  exact hck

set_option maxRecDepth 20000 in
theorem tX8_addContent {l : Launch} {g : GT} {sz : Option Nat} (N : Nat) (this : Nat) (p0 : Nat) (f : HF) {r : (Unit × HF)} (h : DX8_addContent N this p0 f = some r) : Mt l g yX8_addContent cX8_addContent 2 (Option.none : Option Jvm.ClassFile.FieldType) 3 [.ref this, .ref p0] f sz (roU (.inl r.1) r.2 sz) := by
  unfold DX8_addContent at h
  obtain ⟨_, hck, h⟩ := ob_some h
  refine mt_of (by decide) (Nat.le_of_ble_eq_true rfl) (?_ : V l g (fun _ => True) (RX8, cX8_addContent, 2, (Option.none : Option Jvm.ClassFile.FieldType), [], "addContent") 3 (roU (.inl r.1) r.2 sz) 0 [(0, .ref this), (1, .ref p0)] [] f sz 0 0)
  refine v_aload_n dX8_addContent_0 rfl rfl ?_
  obtain ⟨x1, hx2, h⟩ := ob_some h
  have ehx2 := tX2_hasSigns (l := l) (g := g) (sz := sz) N p0 f hx2
  refine v_cVI dX8_addContent_1 ml_X8_73 ok_X2_hasSigns ehx2 (kX2_hasSigns N p0 f hx2) rfl (by decide) rfl (rest := []) rfl (Nat.le_of_ble_eq_true rfl) ?_
  refine v_if_eq (tgt := 29) dX8_addContent_4 (by decide) (fun c31 => ?_) (fun c31 => ?_)
  · replace h := ip_ c31 h
    refine v_aload_n dX8_addContent_29 rfl rfl ?_
    obtain ⟨x3, hx3, h⟩ := ob_some h
    refine v_getI dX8_addContent_30 fl_X8_84 hx3 ?_
    refine v_iconst (v := 2) dX8_addContent_33 (by decide) ?_
    refine v_icmp_ne (tgt := 55) dX8_addContent_34 (by decide) (fun c22 => ?_) (fun c22 => ?_)
    · replace h := in_ c22 h
      refine v_aload_n dX8_addContent_55 rfl rfl ?_
      obtain ⟨x4, hx4, h⟩ := ob_some h
      refine v_getR dX8_addContent_56 fl_X8_90 hx4 ?_
      refine v_aload_n dX8_addContent_59 rfl rfl ?_
      obtain ⟨x5, hx5, h⟩ := ob_some h
      refine v_getI dX8_addContent_60 fl_X8_87 hx5 ?_
      obtain ⟨x6, hx7, h⟩ := ob_some h
      have ehx7 := tX5_has (l := l) (g := g) (sz := sz) N x4 x5 f hx7
      refine v_cVI dX8_addContent_63 ml_X8_93 ok_X5_has ehx7 (kX5_has N x4 x5 f hx7) rfl (by decide) rfl (rest := []) rfl (Nat.le_of_ble_eq_true rfl) ?_
      refine v_if_eq (tgt := 89) dX8_addContent_66 (by decide) (fun c16 => ?_) (fun c16 => ?_)
      · replace h := ip_ c16 h
        obtain rfl := Option.some.inj h
        exact v_vret dX8_addContent_89 rfl rfl
      · replace h := in_ c16 h
        refine v_aload_n dX8_addContent_69 rfl rfl ?_
        obtain ⟨x8, hx8, h⟩ := ob_some h
        refine v_getR dX8_addContent_70 fl_X8_90 hx8 ?_
        refine v_aload_n dX8_addContent_73 rfl rfl ?_
        obtain ⟨x9, hx9, h⟩ := ob_some h
        refine v_getI dX8_addContent_74 fl_X8_87 hx9 ?_
        obtain ⟨x10, hx11, h⟩ := ob_some h
        have ehx11 := tX5_get (l := l) (g := g) (sz := sz) N x8 x9 f hx11
        refine v_cVI dX8_addContent_77 ml_X8_64 ok_X5_get ehx11 (kX5_get N x8 x9 f hx11) rfl (by decide) rfl (rest := []) rfl (Nat.le_of_ble_eq_true rfl) ?_
        refine v_i2l dX8_addContent_80 ?_
        refine v_iconst (v := 0) dX8_addContent_81 (by decide) ?_
        refine v_aload_n dX8_addContent_82 rfl rfl ?_
        obtain ⟨x12, hx12, h⟩ := ob_some h
        refine v_getR dX8_addContent_83 fl_X8_14 hx12 ?_
        obtain ⟨x13, f15, hx14, h⟩ := bW_some h
        have ehx14 := tX0_addNumber (l := l) (g := g) (sz := sz) N (x10.toInt64) (0 : Int32) x12 f hx14
        refine v_cSU dX8_addContent_86 ml_X8_67 ok_X0_addNumber ehx14 (by decide) rfl (rest := []) rfl (Nat.le_of_ble_eq_true rfl) ?_
        obtain rfl := Option.some.inj h
        exact v_vret dX8_addContent_89 rfl rfl
    · replace h := ip_ c22 h
      refine v_aload_n dX8_addContent_37 rfl rfl ?_
      obtain ⟨x17, hx17, h⟩ := ob_some h
      refine v_getR dX8_addContent_38 fl_X8_14 hx17 ?_
      refine v_bipush (v := 48) dX8_addContent_41 (by decide) ?_
      refine v_aload_n dX8_addContent_43 rfl rfl ?_
      obtain ⟨x18, hx18, h⟩ := ob_some h
      refine v_getI dX8_addContent_44 fl_X8_87 hx18 ?_
      refine v_iadd dX8_addContent_47 ?_
      obtain ⟨x19, f21, hx20, h⟩ := bW_some h
      have ehx20 := tX5_add (l := l) (g := g) (sz := sz) N x17 ((48 : Int32) + x18) f hx20
      refine v_cVI dX8_addContent_48 ml_X8_43 ok_X5_add ehx20 (kX5_add N x17 ((48 : Int32) + x18) f hx20) rfl (by decide) rfl (rest := []) rfl (Nat.le_of_ble_eq_true rfl) ?_
      refine v_pop dX8_addContent_51 rfl ?_
      refine v_goto (tgt := 89) dX8_addContent_52 (by decide) ?_
      obtain rfl := Option.some.inj h
      exact v_vret dX8_addContent_89 rfl rfl
  · replace h := in_ c31 h
    refine v_aload_n dX8_addContent_7 rfl rfl ?_
    obtain ⟨x23, hx23, h⟩ := ob_some h
    refine v_getR dX8_addContent_8 fl_X8_14 hx23 ?_
    refine v_aload_n dX8_addContent_11 rfl rfl ?_
    obtain ⟨x24, hx24, h⟩ := ob_some h
    refine v_getR dX8_addContent_12 fl_X8_77 hx24 ?_
    refine v_iconst (v := 0) dX8_addContent_15 (by decide) ?_
    refine v_aload_n dX8_addContent_16 rfl rfl ?_
    obtain ⟨x25, hx25, h⟩ := ob_some h
    refine v_getR dX8_addContent_17 fl_X8_77 hx25 ?_
    obtain ⟨x26, hx27, h⟩ := ob_some h
    have ehx27 := tX5_count (l := l) (g := g) (sz := sz) N x25 f hx27
    refine v_cVI dX8_addContent_20 ml_X8_54 ok_X5_count ehx27 (kX5_count N x25 f hx27) rfl (by decide) rfl (rest := [.int (0 : Int32), .ref x24, .ref x23]) rfl (Nat.le_of_ble_eq_true rfl) ?_
    obtain ⟨x28, f30, hx29, h⟩ := bW_some h
    have ehx29 := tX5_addAll (l := l) (g := g) (sz := sz) N x23 x24 (0 : Int32) x26 f hx29
    refine v_cVU dX8_addContent_23 ml_X8_80 ok_X5_addAll ehx29 (kX5_addAll N x23 x24 (0 : Int32) x26 f hx29) rfl (by decide) rfl (rest := []) rfl (Nat.le_of_ble_eq_true rfl) ?_
    refine v_goto (tgt := 89) dX8_addContent_26 (by decide) ?_
    obtain rfl := Option.some.inj h
    exact v_vret dX8_addContent_89 rfl rfl

/-! X8 writeAll (WT) -/
def DX8_writeAll_68 (N : Nat) (k9 : Nat → Int32 → HF → Option ((Int32 ⊕ String) × HF)) (v0 : Nat) (v1 : Int32) (f : HF) : Option ((Int32 ⊕ String) × HF) :=
    k9 v0 (v1 + 1) f

def DX8_writeAll_9 (N : Nat)  (n : Nat) (v0 : Nat) (v1 : Int32) (f : HF) : Option ((Int32 ⊕ String) × HF) :=
  match n with
  | 0 => none
  | n + 1 =>
    (gR f v0 7 0).bind fun x5 =>
    (DX6_count N x5 f).bind fun x6 =>
    if x6 ≤ v1 then
      (gR f v0 7 1).bind fun x8 =>
      (DX5_count N x8 f).bind fun x9 =>
      some (.inl x9, f)
    else
      (gR f v0 7 0).bind fun x11 =>
      bRW (DX6_isMaster N x11 v1 f) f fun x12 =>
      if x12 = 0 then
        DX8_writeAll_68 N (DX8_writeAll_9 N n) v0 v1 f
      else
        bWW (DX8_addFullName N v0 v1 f) fun x14 f16 =>
        (gR f16 v0 7 1).bind fun x17 =>
        bW (DX5_add N x17 (61 : Int32) f16) fun x18 f20 =>
        (gR f20 v0 7 0).bind fun x21 =>
        bRW (DX6_get N x21 v1 f20) f20 fun x22 =>
        bW (DX8_addContent N v0 x22 f20) fun x24 f26 =>
        (gR f26 v0 7 1).bind fun x27 =>
        bW (DX5_add N x27 (10 : Int32) f26) fun x28 f30 =>
        DX8_writeAll_68 N (DX8_writeAll_9 N n) v0 v1 f30

def DX8_writeAll (N : Nat) (this : Nat) (f : HF) : Option ((Int32 ⊕ String) × HF) :=
  (ck f this 7).bind fun _ =>
  (gR f this 7 1).bind fun x1 =>
  bW (DX5_clear N x1 f) fun x2 f4 =>
  DX8_writeAll_9 N N this (0 : Int32) f4

set_option maxRecDepth 20000 in
theorem tX8_writeAll_68 {l : Launch} {g : GT} {sz : Option Nat} (N : Nat) (k9 : Nat → Int32 → HF → Option ((Int32 ⊕ String) × HF)) {r : ((Int32 ⊕ String) × HF)} (hk9 : ∀ (w0 : Nat) (w1 : Int32) (f : HF), k9 w0 w1 f = some r → V l g (fun _ => True) (RX8, cX8_writeAll, 2, (Option.some Jvm.ClassFile.FieldType.int), [], "writeAll") 10 (roI r.1 r.2 sz) 9 [(0, .ref w0), (1, .int w1)] [] f sz 0 0) : ∀ (v0 : Nat) (v1 : Int32) (f : HF), DX8_writeAll_68 N k9 v0 v1 f = some r → V l g (fun _ => True) (RX8, cX8_writeAll, 2, (Option.some Jvm.ClassFile.FieldType.int), [], "writeAll") 10 (roI r.1 r.2 sz) 68 [(0, .ref v0), (1, .int v1)] [] f sz 0 0 := by
  intro v0 v1 f h
  unfold DX8_writeAll_68 at h
  refine v_iinc (v := (v1 + 1)) (ls1 := [(1, .int (v1 + 1)), (0, .ref v0)]) dX8_writeAll_68 rfl rfl (by decide) rfl ?_
  refine v_goto (tgt := 9) dX8_writeAll_71 (by decide) ?_
  exact v_sub (vs_c rfl (vs_c rfl vs_n)) (hk9 v0 (v1 + 1) f h)

set_option maxRecDepth 20000 in
theorem tX8_writeAll_9 {l : Launch} {g : GT} {sz : Option Nat} (N : Nat)  {r : ((Int32 ⊕ String) × HF)} : ∀ (n : Nat), ∀ (v0 : Nat) (v1 : Int32) (f : HF), DX8_writeAll_9 N n v0 v1 f = some r → V l g (fun _ => True) (RX8, cX8_writeAll, 2, (Option.some Jvm.ClassFile.FieldType.int), [], "writeAll") 10 (roI r.1 r.2 sz) 9 [(0, .ref v0), (1, .int v1)] [] f sz 0 0 := by
  intro n
  induction n with
  | zero => intro v0 v1 f h; cases h
  | succ n ih =>
    intro v0 v1 f h
    rw [DX8_writeAll_9] at h
    refine v_iload_n dX8_writeAll_9 rfl rfl ?_
    refine v_aload_n dX8_writeAll_10 rfl rfl ?_
    obtain ⟨x5, hx5, h⟩ := ob_some h
    refine v_getR dX8_writeAll_11 fl_X8_23 hx5 ?_
    obtain ⟨x6, hx7, h⟩ := ob_some h
    have ehx7 := tX6_count (l := l) (g := g) (sz := sz) N x5 f hx7
    refine v_cVI dX8_writeAll_14 ml_X8_30 ok_X6_count ehx7 (kX6_count N x5 f hx7) rfl (by decide) rfl (rest := [.int v1]) rfl (Nat.le_of_ble_eq_true rfl) ?_
    refine v_icmp_ge (tgt := 74) dX8_writeAll_17 (by decide) (fun c32 => ?_) (fun c32 => ?_)
    · replace h := ip_ c32 h
      refine v_aload_n dX8_writeAll_74 rfl rfl ?_
      obtain ⟨x8, hx8, h⟩ := ob_some h
      refine v_getR dX8_writeAll_75 fl_X8_14 hx8 ?_
      obtain ⟨x9, hx10, h⟩ := ob_some h
      have ehx10 := tX5_count (l := l) (g := g) (sz := sz) N x8 f hx10
      refine v_cVI dX8_writeAll_78 ml_X8_54 ok_X5_count ehx10 (kX5_count N x8 f hx10) rfl (by decide) rfl (rest := []) rfl (Nat.le_of_ble_eq_true rfl) ?_
      obtain rfl := Option.some.inj h
      exact v_iret dX8_writeAll_81 rfl rfl
    · replace h := in_ c32 h
      refine v_aload_n dX8_writeAll_20 rfl rfl ?_
      obtain ⟨x11, hx11, h⟩ := ob_some h
      refine v_getR dX8_writeAll_21 fl_X8_23 hx11 ?_
      refine v_iload_n dX8_writeAll_24 rfl rfl ?_
      rcases bRW_some h with ⟨x12, hx13, h⟩ | ⟨e9, hx13, h⟩
      rotate_left
      · cases h
        have ehx13 := tX6_isMaster (l := l) (g := g) (sz := sz) N x11 v1 f hx13
        exact v_cVx dX8_writeAll_25 ml_X8_36 ok_X6_isMaster ehx13 (kX6_isMaster N x11 v1 f hx13) rfl (by decide) rfl (rest := []) rfl (Nat.le_of_ble_eq_true rfl) rfl rfl
      have ehx13 := tX6_isMaster (l := l) (g := g) (sz := sz) N x11 v1 f hx13
      refine v_cVI dX8_writeAll_25 ml_X8_36 ok_X6_isMaster ehx13 (kX6_isMaster N x11 v1 f hx13) rfl (by decide) rfl (rest := []) rfl (Nat.le_of_ble_eq_true rfl) ?_
      refine v_if_eq (tgt := 68) dX8_writeAll_28 (by decide) (fun c31 => ?_) (fun c31 => ?_)
      · replace h := ip_ c31 h
        exact v_sub (vs_c rfl (vs_c rfl vs_n)) (tX8_writeAll_68 N (DX8_writeAll_9 N n) ih v0 v1 f h)
      · replace h := in_ c31 h
        refine v_aload_n dX8_writeAll_31 rfl rfl ?_
        refine v_iload_n dX8_writeAll_32 rfl rfl ?_
        rcases bWW_some h with ⟨x14, f16, hx15, h⟩ | ⟨e9, f16, hx15, h⟩
        rotate_left
        · cases h
          have ehx15 := tX8_addFullName (l := l) (g := g) (sz := sz) N v0 v1 f hx15
          exact v_cVx dX8_writeAll_33 ml_X8_40 ok_X8_addFullName ehx15 (kX8_addFullName N v0 v1 f hx15) rfl (by decide) rfl (rest := []) rfl (Nat.le_of_ble_eq_true rfl) rfl rfl
        have ehx15 := tX8_addFullName (l := l) (g := g) (sz := sz) N v0 v1 f hx15
        refine v_cVU dX8_writeAll_33 ml_X8_40 ok_X8_addFullName ehx15 (kX8_addFullName N v0 v1 f hx15) rfl (by decide) rfl (rest := []) rfl (Nat.le_of_ble_eq_true rfl) ?_
        refine v_aload_n dX8_writeAll_36 rfl rfl ?_
        obtain ⟨x17, hx17, h⟩ := ob_some h
        refine v_getR dX8_writeAll_37 fl_X8_14 hx17 ?_
        refine v_bipush (v := 61) dX8_writeAll_40 (by decide) ?_
        obtain ⟨x18, f20, hx19, h⟩ := bW_some h
        have ehx19 := tX5_add (l := l) (g := g) (sz := sz) N x17 (61 : Int32) f16 hx19
        refine v_cVI dX8_writeAll_42 ml_X8_43 ok_X5_add ehx19 (kX5_add N x17 (61 : Int32) f16 hx19) rfl (by decide) rfl (rest := []) rfl (Nat.le_of_ble_eq_true rfl) ?_
        refine v_pop dX8_writeAll_45 rfl ?_
        refine v_aload_n dX8_writeAll_46 rfl rfl ?_
        refine v_aload_n dX8_writeAll_47 rfl rfl ?_
        obtain ⟨x21, hx21, h⟩ := ob_some h
        refine v_getR dX8_writeAll_48 fl_X8_23 hx21 ?_
        refine v_iload_n dX8_writeAll_51 rfl rfl ?_
        rcases bRW_some h with ⟨x22, hx23, h⟩ | ⟨e9, hx23, h⟩
        rotate_left
        · cases h
          have ehx23 := tX6_get (l := l) (g := g) (sz := sz) N x21 v1 f20 hx23
          exact v_cVx dX8_writeAll_52 ml_X8_46 ok_X6_get ehx23 (kX6_get N x21 v1 f20 hx23) rfl (by decide) rfl (rest := [.ref v0]) rfl (Nat.le_of_ble_eq_true rfl) rfl rfl
        have ehx23 := tX6_get (l := l) (g := g) (sz := sz) N x21 v1 f20 hx23
        refine v_cVR dX8_writeAll_52 ml_X8_46 ok_X6_get ehx23 (kX6_get N x21 v1 f20 hx23) rfl (by decide) rfl (rest := [.ref v0]) rfl (Nat.le_of_ble_eq_true rfl) ?_
        obtain ⟨x24, f26, hx25, h⟩ := bW_some h
        have ehx25 := tX8_addContent (l := l) (g := g) (sz := sz) N v0 x22 f20 hx25
        refine v_cVU dX8_writeAll_55 ml_X8_50 ok_X8_addContent ehx25 (kX8_addContent N v0 x22 f20 hx25) rfl (by decide) rfl (rest := []) rfl (Nat.le_of_ble_eq_true rfl) ?_
        refine v_aload_n dX8_writeAll_58 rfl rfl ?_
        obtain ⟨x27, hx27, h⟩ := ob_some h
        refine v_getR dX8_writeAll_59 fl_X8_14 hx27 ?_
        refine v_bipush (v := 10) dX8_writeAll_62 (by decide) ?_
        obtain ⟨x28, f30, hx29, h⟩ := bW_some h
        have ehx29 := tX5_add (l := l) (g := g) (sz := sz) N x27 (10 : Int32) f26 hx29
        refine v_cVI dX8_writeAll_64 ml_X8_43 ok_X5_add ehx29 (kX5_add N x27 (10 : Int32) f26 hx29) rfl (by decide) rfl (rest := []) rfl (Nat.le_of_ble_eq_true rfl) ?_
        refine v_pop dX8_writeAll_67 rfl ?_
        exact v_sub (vs_c rfl (vs_c rfl vs_n)) (tX8_writeAll_68 N (DX8_writeAll_9 N n) ih v0 v1 f30 h)

set_option maxRecDepth 20000 in
theorem kX8_writeAll (N : Nat) (this : Nat) (f : HF) {r : ((Int32 ⊕ String) × HF)} (h : DX8_writeAll N this f = some r) : ck f this 7 = some () := by
  unfold DX8_writeAll at h
  obtain ⟨_, hck, _⟩ := ob_some h
  exact hck

set_option maxRecDepth 20000 in
theorem tX8_writeAll {l : Launch} {g : GT} {sz : Option Nat} (N : Nat) (this : Nat) (f : HF) {r : ((Int32 ⊕ String) × HF)} (h : DX8_writeAll N this f = some r) : Mt l g yX8_writeAll cX8_writeAll 2 (Option.some Jvm.ClassFile.FieldType.int) 10 [.ref this] f sz (roI r.1 r.2 sz) := by
  unfold DX8_writeAll at h
  obtain ⟨_, hck, h⟩ := ob_some h
  refine mt_of (by decide) (Nat.le_of_ble_eq_true rfl) (?_ : V l g (fun _ => True) (RX8, cX8_writeAll, 2, (Option.some Jvm.ClassFile.FieldType.int), [], "writeAll") 10 (roI r.1 r.2 sz) 0 [(0, .ref this)] [] f sz 0 0)
  refine v_aload_n dX8_writeAll_0 rfl rfl ?_
  obtain ⟨x1, hx1, h⟩ := ob_some h
  refine v_getR dX8_writeAll_1 fl_X8_14 hx1 ?_
  obtain ⟨x2, f4, hx3, h⟩ := bW_some h
  have ehx3 := tX5_clear (l := l) (g := g) (sz := sz) N x1 f hx3
  refine v_cVU dX8_writeAll_4 ml_X8_27 ok_X5_clear ehx3 (kX5_clear N x1 f hx3) rfl (by decide) rfl (rest := []) rfl (Nat.le_of_ble_eq_true rfl) ?_
  refine v_iconst (v := 0) dX8_writeAll_7 (by decide) ?_
  refine v_istore_n (ls1 := [(1, .int (0 : Int32)), (0, .ref this)]) dX8_writeAll_8 rfl (by decide) rfl ?_
  exact v_sub (vs_c rfl (vs_c rfl vs_n)) (tX8_writeAll_9 N N this (0 : Int32) f4 h)

