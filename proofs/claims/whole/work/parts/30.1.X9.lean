/-! X9 validate (RT) -/
def DX9_validate (N : Nat) (this : Nat) (p0 : Int32) (f : HF) : Option (Int32 ⊕ String) :=
  (ck f this 8).bind fun _ =>
  bRT (DX9_masterWithValue N this p0 f) fun x1 =>
  (DX2_verdict N x1 f).bind fun x3 =>
  some (.inl x3)

set_option maxRecDepth 20000 in
theorem kX9_validate (N : Nat) (this : Nat) (p0 : Int32) (f : HF) {r : (Int32 ⊕ String)} (h : DX9_validate N this p0 f = some r) : ck f this 8 = some () := by
  unfold DX9_validate at h
  obtain ⟨_, hck, _⟩ := ob_some h
  exact hck

set_option maxRecDepth 20000 in
theorem tX9_validate {l : Launch} {g : GT} {sz : Option Nat} (N : Nat) (this : Nat) (p0 : Int32) (f : HF) {r : (Int32 ⊕ String)} (h : DX9_validate N this p0 f = some r) : Mt l g yX9_validate cX9_validate 2 (Option.some Jvm.ClassFile.FieldType.int) 11 [.ref this, .int p0] f sz (roI r f sz) := by
  unfold DX9_validate at h
  obtain ⟨_, hck, h⟩ := ob_some h
  refine mt_of (by decide) (Nat.le_of_ble_eq_true rfl) (?_ : V l g (fun _ => True) (RX9, cX9_validate, 2, (Option.some Jvm.ClassFile.FieldType.int), [], "validate") 11 (roI r f sz) 0 [(0, .ref this), (1, .int p0)] [] f sz 0 0)
  refine v_aload_n dX9_validate_0 rfl rfl ?_
  refine v_iload_n dX9_validate_1 rfl rfl ?_
  rcases bRT_some h with ⟨x1, hx2, h⟩ | ⟨e9, hx2, h⟩
  rotate_left
  · cases h
    have ehx2 := tX9_masterWithValue (l := l) (g := g) (sz := sz) N this p0 f hx2
    exact v_cVx dX9_validate_2 ml_X9_188 ok_X9_masterWithValue ehx2 (kX9_masterWithValue N this p0 f hx2) rfl (by decide) rfl (rest := []) rfl (Nat.le_of_ble_eq_true rfl) rfl rfl
  have ehx2 := tX9_masterWithValue (l := l) (g := g) (sz := sz) N this p0 f hx2
  refine v_cVR dX9_validate_2 ml_X9_188 ok_X9_masterWithValue ehx2 (kX9_masterWithValue N this p0 f hx2) rfl (by decide) rfl (rest := []) rfl (Nat.le_of_ble_eq_true rfl) ?_
  obtain ⟨x3, hx4, h⟩ := ob_some h
  have ehx4 := tX2_verdict (l := l) (g := g) (sz := sz) N x1 f hx4
  refine v_cVI dX9_validate_5 ml_X9_195 ok_X2_verdict ehx4 (kX2_verdict N x1 f hx4) rfl (by decide) rfl (rest := []) rfl (Nat.le_of_ble_eq_true rfl) ?_
  obtain rfl := Option.some.inj h
  exact v_iret dX9_validate_8 rfl rfl

/-! X9 appearance (WT) -/
def DX9_appearance (N : Nat) (this : Nat) (p0 : Int32) (f : HF) : Option ((Int32 ⊕ String) × HF) :=
  (ck f this 8).bind fun _ =>
  bRW (DX9_masterWithValue N this p0 f) f fun x1 =>
  (gR f this 8 5).bind fun x3 =>
  bW (DX3_clear N x3 f) fun x4 f6 =>
  (gR f6 this 8 1).bind fun x7 =>
  (gR f6 this 8 0).bind fun x8 =>
  bRW (DX6_get N x8 p0 f6) f6 fun x9 =>
  (gR f6 this 8 5).bind fun x11 =>
  bW (DX7_addMarks N x7 x9 x1 x11 f6) fun x12 f14 =>
  (gR f14 this 8 5).bind fun x15 =>
  (DX3_count N x15 f14).bind fun x16 =>
  some (.inl x16, f14)

set_option maxRecDepth 20000 in
theorem kX9_appearance (N : Nat) (this : Nat) (p0 : Int32) (f : HF) {r : ((Int32 ⊕ String) × HF)} (h : DX9_appearance N this p0 f = some r) : ck f this 8 = some () := by
  unfold DX9_appearance at h
  obtain ⟨_, hck, _⟩ := ob_some h
  exact hck

set_option maxRecDepth 20000 in
theorem tX9_appearance {l : Launch} {g : GT} {sz : Option Nat} (N : Nat) (this : Nat) (p0 : Int32) (f : HF) {r : ((Int32 ⊕ String) × HF)} (h : DX9_appearance N this p0 f = some r) : Mt l g yX9_appearance cX9_appearance 3 (Option.some Jvm.ClassFile.FieldType.int) 11 [.ref this, .int p0] f sz (roI r.1 r.2 sz) := by
  unfold DX9_appearance at h
  obtain ⟨_, hck, h⟩ := ob_some h
  refine mt_of (by decide) (Nat.le_of_ble_eq_true rfl) (?_ : V l g (fun _ => True) (RX9, cX9_appearance, 3, (Option.some Jvm.ClassFile.FieldType.int), [], "appearance") 11 (roI r.1 r.2 sz) 0 [(0, .ref this), (1, .int p0)] [] f sz 0 0)
  refine v_aload_n dX9_appearance_0 rfl rfl ?_
  refine v_iload_n dX9_appearance_1 rfl rfl ?_
  rcases bRW_some h with ⟨x1, hx2, h⟩ | ⟨e9, hx2, h⟩
  rotate_left
  · cases h
    have ehx2 := tX9_masterWithValue (l := l) (g := g) (sz := sz) N this p0 f hx2
    exact v_cVx dX9_appearance_2 ml_X9_188 ok_X9_masterWithValue ehx2 (kX9_masterWithValue N this p0 f hx2) rfl (by decide) rfl (rest := []) rfl (Nat.le_of_ble_eq_true rfl) rfl rfl
  have ehx2 := tX9_masterWithValue (l := l) (g := g) (sz := sz) N this p0 f hx2
  refine v_cVR dX9_appearance_2 ml_X9_188 ok_X9_masterWithValue ehx2 (kX9_masterWithValue N this p0 f hx2) rfl (by decide) rfl (rest := []) rfl (Nat.le_of_ble_eq_true rfl) ?_
  refine v_astore_n (ls1 := [(2, .ref x1), (0, .ref this), (1, .int p0)]) dX9_appearance_5 rfl (by decide) rfl ?_
  refine v_aload_n dX9_appearance_6 rfl rfl ?_
  obtain ⟨x3, hx3, h⟩ := ob_some h
  refine v_getR dX9_appearance_7 fl_X9_53 hx3 ?_
  obtain ⟨x4, f6, hx5, h⟩ := bW_some h
  have ehx5 := tX3_clear (l := l) (g := g) (sz := sz) N x3 f hx5
  refine v_cVU dX9_appearance_10 ml_X9_198 ok_X3_clear ehx5 (kX3_clear N x3 f hx5) rfl (by decide) rfl (rest := []) rfl (Nat.le_of_ble_eq_true rfl) ?_
  refine v_aload_n dX9_appearance_13 rfl rfl ?_
  obtain ⟨x7, hx7, h⟩ := ob_some h
  refine v_getR dX9_appearance_14 fl_X9_21 hx7 ?_
  refine v_aload_n dX9_appearance_17 rfl rfl ?_
  obtain ⟨x8, hx8, h⟩ := ob_some h
  refine v_getR dX9_appearance_18 fl_X9_12 hx8 ?_
  refine v_iload_n dX9_appearance_21 rfl rfl ?_
  rcases bRW_some h with ⟨x9, hx10, h⟩ | ⟨e9, hx10, h⟩
  rotate_left
  · cases h
    have ehx10 := tX6_get (l := l) (g := g) (sz := sz) N x8 p0 f6 hx10
    exact v_cVx dX9_appearance_22 ml_X9_60 ok_X6_get ehx10 (kX6_get N x8 p0 f6 hx10) rfl (by decide) rfl (rest := [.ref x7]) rfl (Nat.le_of_ble_eq_true rfl) rfl rfl
  have ehx10 := tX6_get (l := l) (g := g) (sz := sz) N x8 p0 f6 hx10
  refine v_cVR dX9_appearance_22 ml_X9_60 ok_X6_get ehx10 (kX6_get N x8 p0 f6 hx10) rfl (by decide) rfl (rest := [.ref x7]) rfl (Nat.le_of_ble_eq_true rfl) ?_
  refine v_aload_n dX9_appearance_25 rfl rfl ?_
  refine v_aload_n dX9_appearance_26 rfl rfl ?_
  obtain ⟨x11, hx11, h⟩ := ob_some h
  refine v_getR dX9_appearance_27 fl_X9_53 hx11 ?_
  obtain ⟨x12, f14, hx13, h⟩ := bW_some h
  have ehx13 := tX7_addMarks (l := l) (g := g) (sz := sz) N x7 x9 x1 x11 f6 hx13
  refine v_cVU dX9_appearance_30 ml_X9_201 ok_X7_addMarks ehx13 (kX7_addMarks N x7 x9 x1 x11 f6 hx13) rfl (by decide) rfl (rest := []) rfl (Nat.le_of_ble_eq_true rfl) ?_
  refine v_aload_n dX9_appearance_33 rfl rfl ?_
  obtain ⟨x15, hx15, h⟩ := ob_some h
  refine v_getR dX9_appearance_34 fl_X9_53 hx15 ?_
  obtain ⟨x16, hx17, h⟩ := ob_some h
  have ehx17 := tX3_count (l := l) (g := g) (sz := sz) N x15 f14 hx17
  refine v_cVI dX9_appearance_37 ml_X9_205 ok_X3_count ehx17 (kX3_count N x15 f14 hx17) rfl (by decide) rfl (rest := []) rfl (Nat.le_of_ble_eq_true rfl) ?_
  obtain rfl := Option.some.inj h
  exact v_iret dX9_appearance_40 rfl rfl

/-! X9 mark (RT) -/
def DX9_mark (N : Nat) (this : Nat) (p0 : Int32) (p1 : Int32) (f : HF) : Option (Int32 ⊕ String) :=
  (ck f this 8).bind fun _ =>
  (gR f this 8 5).bind fun x1 =>
  (DX3_has N x1 p0 p1 f).bind fun x2 =>
  if x2 = 0 then
    some (.inr "java/lang/IndexOutOfBoundsException")
  else
    if p1 = (4 : Int32) then
      some (.inr "java/lang/IndexOutOfBoundsException")
    else
      (gR f this 8 5).bind fun x4 =>
      (DX3_get N x4 p0 p1 f).bind fun x5 =>
      some (.inl x5)

set_option maxRecDepth 20000 in
theorem kX9_mark (N : Nat) (this : Nat) (p0 : Int32) (p1 : Int32) (f : HF) {r : (Int32 ⊕ String)} (h : DX9_mark N this p0 p1 f = some r) : ck f this 8 = some () := by
  unfold DX9_mark at h
  obtain ⟨_, hck, _⟩ := ob_some h
  exact hck

set_option maxRecDepth 20000 in
theorem tX9_mark {l : Launch} {g : GT} {sz : Option Nat} (N : Nat) (this : Nat) (p0 : Int32) (p1 : Int32) (f : HF) {r : (Int32 ⊕ String)} (h : DX9_mark N this p0 p1 f = some r) : Mt l g yX9_mark cX9_mark 3 (Option.some Jvm.ClassFile.FieldType.int) 8 [.ref this, .int p0, .int p1] f sz (roI r f sz) := by
  unfold DX9_mark at h
  obtain ⟨_, hck, h⟩ := ob_some h
  refine mt_of (by decide) (Nat.le_of_ble_eq_true rfl) (?_ : V l g (fun _ => True) (RX9, cX9_mark, 3, (Option.some Jvm.ClassFile.FieldType.int), [], "mark") 8 (roI r f sz) 0 [(0, .ref this), (1, .int p0), (2, .int p1)] [] f sz 0 0)
  refine v_aload_n dX9_mark_0 rfl rfl ?_
  obtain ⟨x1, hx1, h⟩ := ob_some h
  refine v_getR dX9_mark_1 fl_X9_53 hx1 ?_
  refine v_iload_n dX9_mark_4 rfl rfl ?_
  refine v_iload_n dX9_mark_5 rfl rfl ?_
  obtain ⟨x2, hx3, h⟩ := ob_some h
  have ehx3 := tX3_has (l := l) (g := g) (sz := sz) N x1 p0 p1 f hx3
  refine v_cVI dX9_mark_6 ml_X9_206 ok_X3_has ehx3 (kX3_has N x1 p0 p1 f hx3) rfl (by decide) rfl (rest := []) rfl (Nat.le_of_ble_eq_true rfl) ?_
  refine v_if_eq (tgt := 17) dX9_mark_9 (by decide) (fun c8 => ?_) (fun c8 => ?_)
  · replace h := ip_ c8 h
    obtain rfl := Option.some.inj h
    exact v_thr dX9_mark_17 dX9_mark_20 dX9_mark_21 dX9_mark_24 th_X9_176_178 (by decide) rfl (Nat.le_of_ble_eq_true rfl) rfl
  · replace h := in_ c8 h
    refine v_iload_n dX9_mark_12 rfl rfl ?_
    refine v_iconst (v := 4) dX9_mark_13 (by decide) ?_
    refine v_icmp_ne (tgt := 25) dX9_mark_14 (by decide) (fun c7 => ?_) (fun c7 => ?_)
    · replace h := in_ c7 h
      refine v_aload_n dX9_mark_25 rfl rfl ?_
      obtain ⟨x4, hx4, h⟩ := ob_some h
      refine v_getR dX9_mark_26 fl_X9_53 hx4 ?_
      refine v_iload_n dX9_mark_29 rfl rfl ?_
      refine v_iload_n dX9_mark_30 rfl rfl ?_
      obtain ⟨x5, hx6, h⟩ := ob_some h
      have ehx6 := tX3_get (l := l) (g := g) (sz := sz) N x4 p0 p1 f hx6
      refine v_cVI dX9_mark_31 ml_X9_208 ok_X3_get ehx6 (kX3_get N x4 p0 p1 f hx6) rfl (by decide) rfl (rest := []) rfl (Nat.le_of_ble_eq_true rfl) ?_
      obtain rfl := Option.some.inj h
      exact v_iret dX9_mark_34 rfl rfl
    · replace h := ip_ c7 h
      obtain rfl := Option.some.inj h
      exact v_thr dX9_mark_17 dX9_mark_20 dX9_mark_21 dX9_mark_24 th_X9_176_178 (by decide) rfl (Nat.le_of_ble_eq_true rfl) rfl

/-! X9 flatten (WT) -/
def DX9_flatten (N : Nat) (this : Nat) (p0 : Int32) (f : HF) : Option ((Int32 ⊕ String) × HF) :=
  (ck f this 8).bind fun _ =>
  (gR f this 8 0).bind fun x1 =>
  bRW (DX6_get N x1 p0 f) f fun x2 =>
  bRW (DX9_masterWithValue N this p0 f) f fun x4 =>
  (gI f x2 1 5).bind fun x6 =>
  if x6 = 0 then
    (gR f this 8 6).bind fun x7 =>
    (DX3_count N x7 f).bind fun x8 =>
    (gR f this 8 1).bind fun x10 =>
    bW (DX7_show N x10 x4 f) fun x11 f13 =>
    (DX5_count N x11 f13).bind fun x14 =>
    if ((x8 + (1 : Int32)) + x14) ≤ (400 : Int32) then
      (gR f13 this 8 1).bind fun x16 =>
      (gR f13 this 8 6).bind fun x17 =>
      bW (DX7_addMarks N x16 x2 x4 x17 f13) fun x18 f20 =>
      (pV f20 x2 1 5 (.int (1 : Int32))).bind fun f21 =>
      (gR f21 this 8 6).bind fun x22 =>
      (DX3_count N x22 f21).bind fun x23 =>
      some (.inl x23, f21)
    else
      some (.inr "java/lang/UnsupportedOperationException", f13)
  else
    some (.inr "java/lang/IllegalStateException", f)

set_option maxRecDepth 20000 in
theorem kX9_flatten (N : Nat) (this : Nat) (p0 : Int32) (f : HF) {r : ((Int32 ⊕ String) × HF)} (h : DX9_flatten N this p0 f = some r) : ck f this 8 = some () := by
  unfold DX9_flatten at h
  obtain ⟨_, hck, _⟩ := ob_some h
  exact hck

set_option maxRecDepth 20000 in
theorem tX9_flatten {l : Launch} {g : GT} {sz : Option Nat} (N : Nat) (this : Nat) (p0 : Int32) (f : HF) {r : ((Int32 ⊕ String) × HF)} (h : DX9_flatten N this p0 f = some r) : Mt l g yX9_flatten cX9_flatten 4 (Option.some Jvm.ClassFile.FieldType.int) 11 [.ref this, .int p0] f sz (roI r.1 r.2 sz) := by
  unfold DX9_flatten at h
  obtain ⟨_, hck, h⟩ := ob_some h
  refine mt_of (by decide) (Nat.le_of_ble_eq_true rfl) (?_ : V l g (fun _ => True) (RX9, cX9_flatten, 4, (Option.some Jvm.ClassFile.FieldType.int), [], "flatten") 11 (roI r.1 r.2 sz) 0 [(0, .ref this), (1, .int p0)] [] f sz 0 0)
  refine v_aload_n dX9_flatten_0 rfl rfl ?_
  obtain ⟨x1, hx1, h⟩ := ob_some h
  refine v_getR dX9_flatten_1 fl_X9_12 hx1 ?_
  refine v_iload_n dX9_flatten_4 rfl rfl ?_
  rcases bRW_some h with ⟨x2, hx3, h⟩ | ⟨e9, hx3, h⟩
  rotate_left
  · cases h
    have ehx3 := tX6_get (l := l) (g := g) (sz := sz) N x1 p0 f hx3
    exact v_cVx dX9_flatten_5 ml_X9_60 ok_X6_get ehx3 (kX6_get N x1 p0 f hx3) rfl (by decide) rfl (rest := []) rfl (Nat.le_of_ble_eq_true rfl) rfl rfl
  have ehx3 := tX6_get (l := l) (g := g) (sz := sz) N x1 p0 f hx3
  refine v_cVR dX9_flatten_5 ml_X9_60 ok_X6_get ehx3 (kX6_get N x1 p0 f hx3) rfl (by decide) rfl (rest := []) rfl (Nat.le_of_ble_eq_true rfl) ?_
  refine v_astore_n (ls1 := [(2, .ref x2), (0, .ref this), (1, .int p0)]) dX9_flatten_8 rfl (by decide) rfl ?_
  refine v_aload_n dX9_flatten_9 rfl rfl ?_
  refine v_iload_n dX9_flatten_10 rfl rfl ?_
  rcases bRW_some h with ⟨x4, hx5, h⟩ | ⟨e9, hx5, h⟩
  rotate_left
  · cases h
    have ehx5 := tX9_masterWithValue (l := l) (g := g) (sz := sz) N this p0 f hx5
    exact v_cVx dX9_flatten_11 ml_X9_188 ok_X9_masterWithValue ehx5 (kX9_masterWithValue N this p0 f hx5) rfl (by decide) rfl (rest := []) rfl (Nat.le_of_ble_eq_true rfl) rfl rfl
  have ehx5 := tX9_masterWithValue (l := l) (g := g) (sz := sz) N this p0 f hx5
  refine v_cVR dX9_flatten_11 ml_X9_188 ok_X9_masterWithValue ehx5 (kX9_masterWithValue N this p0 f hx5) rfl (by decide) rfl (rest := []) rfl (Nat.le_of_ble_eq_true rfl) ?_
  refine v_astore_n (ls1 := [(3, .ref x4), (2, .ref x2), (0, .ref this), (1, .int p0)]) dX9_flatten_14 rfl (by decide) rfl ?_
  refine v_aload_n dX9_flatten_15 rfl rfl ?_
  obtain ⟨x6, hx6, h⟩ := ob_some h
  refine v_getI dX9_flatten_16 fl_X9_98 hx6 ?_
  refine v_if_eq (tgt := 30) dX9_flatten_19 (by decide) (fun c26 => ?_) (fun c26 => ?_)
  · replace h := ip_ c26 h
    refine v_aload_n dX9_flatten_30 rfl rfl ?_
    obtain ⟨x7, hx7, h⟩ := ob_some h
    refine v_getR dX9_flatten_31 fl_X9_57 hx7 ?_
    obtain ⟨x8, hx9, h⟩ := ob_some h
    have ehx9 := tX3_count (l := l) (g := g) (sz := sz) N x7 f hx9
    refine v_cVI dX9_flatten_34 ml_X9_205 ok_X3_count ehx9 (kX3_count N x7 f hx9) rfl (by decide) rfl (rest := []) rfl (Nat.le_of_ble_eq_true rfl) ?_
    refine v_iconst (v := 1) dX9_flatten_37 (by decide) ?_
    refine v_iadd dX9_flatten_38 ?_
    refine v_aload_n dX9_flatten_39 rfl rfl ?_
    obtain ⟨x10, hx10, h⟩ := ob_some h
    refine v_getR dX9_flatten_40 fl_X9_21 hx10 ?_
    refine v_aload_n dX9_flatten_43 rfl rfl ?_
    obtain ⟨x11, f13, hx12, h⟩ := bW_some h
    have ehx12 := tX7_show (l := l) (g := g) (sz := sz) N x10 x4 f hx12
    refine v_cVR dX9_flatten_44 ml_X9_184 ok_X7_show ehx12 (kX7_show N x10 x4 f hx12) rfl (by decide) rfl (rest := [.int (x8 + (1 : Int32))]) rfl (Nat.le_of_ble_eq_true rfl) ?_
    obtain ⟨x14, hx15, h⟩ := ob_some h
    have ehx15 := tX5_count (l := l) (g := g) (sz := sz) N x11 f13 hx15
    refine v_cVI dX9_flatten_47 ml_X9_130 ok_X5_count ehx15 (kX5_count N x11 f13 hx15) rfl (by decide) rfl (rest := [.int (x8 + (1 : Int32))]) rfl (Nat.le_of_ble_eq_true rfl) ?_
    refine v_iadd dX9_flatten_50 ?_
    refine v_sipush (v := 400) dX9_flatten_51 (by decide) ?_
    refine v_icmp_le (tgt := 65) dX9_flatten_54 (by decide) (fun c25 => ?_) (fun c25 => ?_)
    · replace h := ip_ c25 h
      refine v_aload_n dX9_flatten_65 rfl rfl ?_
      obtain ⟨x16, hx16, h⟩ := ob_some h
      refine v_getR dX9_flatten_66 fl_X9_21 hx16 ?_
      refine v_aload_n dX9_flatten_69 rfl rfl ?_
      refine v_aload_n dX9_flatten_70 rfl rfl ?_
      refine v_aload_n dX9_flatten_71 rfl rfl ?_
      obtain ⟨x17, hx17, h⟩ := ob_some h
      refine v_getR dX9_flatten_72 fl_X9_57 hx17 ?_
      obtain ⟨x18, f20, hx19, h⟩ := bW_some h
      have ehx19 := tX7_addMarks (l := l) (g := g) (sz := sz) N x16 x2 x4 x17 f13 hx19
      refine v_cVU dX9_flatten_75 ml_X9_201 ok_X7_addMarks ehx19 (kX7_addMarks N x16 x2 x4 x17 f13 hx19) rfl (by decide) rfl (rest := []) rfl (Nat.le_of_ble_eq_true rfl) ?_
      refine v_aload_n dX9_flatten_78 rfl rfl ?_
      refine v_iconst (v := 1) dX9_flatten_79 (by decide) ?_
      obtain ⟨f21, hf21, h⟩ := ob_some h
      refine v_pZ dX9_flatten_80 fp_X9_98 (Or.inr rfl) hf21 ?_
      refine v_aload_n dX9_flatten_83 rfl rfl ?_
      obtain ⟨x22, hx22, h⟩ := ob_some h
      refine v_getR dX9_flatten_84 fl_X9_57 hx22 ?_
      obtain ⟨x23, hx24, h⟩ := ob_some h
      have ehx24 := tX3_count (l := l) (g := g) (sz := sz) N x22 f21 hx24
      refine v_cVI dX9_flatten_87 ml_X9_205 ok_X3_count ehx24 (kX3_count N x22 f21 hx24) rfl (by decide) rfl (rest := []) rfl (Nat.le_of_ble_eq_true rfl) ?_
      obtain rfl := Option.some.inj h
      exact v_iret dX9_flatten_90 rfl rfl
    · replace h := in_ c25 h
      obtain rfl := Option.some.inj h
      exact v_thr dX9_flatten_57 dX9_flatten_60 dX9_flatten_61 dX9_flatten_64 th_X9_127_129 (by decide) rfl (Nat.le_of_ble_eq_true rfl) rfl
  · replace h := in_ c26 h
    obtain rfl := Option.some.inj h
    exact v_thr dX9_flatten_22 dX9_flatten_25 dX9_flatten_26 dX9_flatten_29 th_X9_80_82 (by decide) rfl (Nat.le_of_ble_eq_true rfl) rfl

/-! X9 page (RT) -/
def DX9_page (N : Nat) (this : Nat) (p0 : Int32) (p1 : Int32) (f : HF) : Option (Int32 ⊕ String) :=
  (ck f this 8).bind fun _ =>
  (gR f this 8 6).bind fun x1 =>
  (DX3_has N x1 p0 p1 f).bind fun x2 =>
  if x2 = 0 then
    some (.inr "java/lang/IndexOutOfBoundsException")
  else
    (gR f this 8 6).bind fun x4 =>
    (DX3_get N x4 p0 p1 f).bind fun x5 =>
    some (.inl x5)

set_option maxRecDepth 20000 in
theorem kX9_page (N : Nat) (this : Nat) (p0 : Int32) (p1 : Int32) (f : HF) {r : (Int32 ⊕ String)} (h : DX9_page N this p0 p1 f = some r) : ck f this 8 = some () := by
  unfold DX9_page at h
  obtain ⟨_, hck, _⟩ := ob_some h
  exact hck

set_option maxRecDepth 20000 in
theorem tX9_page {l : Launch} {g : GT} {sz : Option Nat} (N : Nat) (this : Nat) (p0 : Int32) (p1 : Int32) (f : HF) {r : (Int32 ⊕ String)} (h : DX9_page N this p0 p1 f = some r) : Mt l g yX9_page cX9_page 3 (Option.some Jvm.ClassFile.FieldType.int) 8 [.ref this, .int p0, .int p1] f sz (roI r f sz) := by
  unfold DX9_page at h
  obtain ⟨_, hck, h⟩ := ob_some h
  refine mt_of (by decide) (Nat.le_of_ble_eq_true rfl) (?_ : V l g (fun _ => True) (RX9, cX9_page, 3, (Option.some Jvm.ClassFile.FieldType.int), [], "page") 8 (roI r f sz) 0 [(0, .ref this), (1, .int p0), (2, .int p1)] [] f sz 0 0)
  refine v_aload_n dX9_page_0 rfl rfl ?_
  obtain ⟨x1, hx1, h⟩ := ob_some h
  refine v_getR dX9_page_1 fl_X9_57 hx1 ?_
  refine v_iload_n dX9_page_4 rfl rfl ?_
  refine v_iload_n dX9_page_5 rfl rfl ?_
  obtain ⟨x2, hx3, h⟩ := ob_some h
  have ehx3 := tX3_has (l := l) (g := g) (sz := sz) N x1 p0 p1 f hx3
  refine v_cVI dX9_page_6 ml_X9_206 ok_X3_has ehx3 (kX3_has N x1 p0 p1 f hx3) rfl (by decide) rfl (rest := []) rfl (Nat.le_of_ble_eq_true rfl) ?_
  refine v_if_ne (tgt := 20) dX9_page_9 (by decide) (fun c7 => ?_) (fun c7 => ?_)
  · replace h := in_ c7 h
    refine v_aload_n dX9_page_20 rfl rfl ?_
    obtain ⟨x4, hx4, h⟩ := ob_some h
    refine v_getR dX9_page_21 fl_X9_57 hx4 ?_
    refine v_iload_n dX9_page_24 rfl rfl ?_
    refine v_iload_n dX9_page_25 rfl rfl ?_
    obtain ⟨x5, hx6, h⟩ := ob_some h
    have ehx6 := tX3_get (l := l) (g := g) (sz := sz) N x4 p0 p1 f hx6
    refine v_cVI dX9_page_26 ml_X9_208 ok_X3_get ehx6 (kX3_get N x4 p0 p1 f hx6) rfl (by decide) rfl (rest := []) rfl (Nat.le_of_ble_eq_true rfl) ?_
    obtain rfl := Option.some.inj h
    exact v_iret dX9_page_29 rfl rfl
  · replace h := ip_ c7 h
    obtain rfl := Option.some.inj h
    exact v_thr dX9_page_12 dX9_page_15 dX9_page_16 dX9_page_19 th_X9_176_178 (by decide) rfl (Nat.le_of_ble_eq_true rfl) rfl

/-! X9 write (WT) -/
def DX9_write (N : Nat) (this : Nat) (f : HF) : Option ((Int32 ⊕ String) × HF) :=
  (ck f this 8).bind fun _ =>
  (gR f this 8 3).bind fun x1 =>
  bWW (DX8_writeAll N x1 f) fun x2 f4 =>
  some (.inl x2, f4)

set_option maxRecDepth 20000 in
theorem kX9_write (N : Nat) (this : Nat) (f : HF) {r : ((Int32 ⊕ String) × HF)} (h : DX9_write N this f = some r) : ck f this 8 = some () := by
  unfold DX9_write at h
  obtain ⟨_, hck, _⟩ := ob_some h
  exact hck

set_option maxRecDepth 20000 in
theorem tX9_write {l : Launch} {g : GT} {sz : Option Nat} (N : Nat) (this : Nat) (f : HF) {r : ((Int32 ⊕ String) × HF)} (h : DX9_write N this f = some r) : Mt l g yX9_write cX9_write 1 (Option.some Jvm.ClassFile.FieldType.int) 11 [.ref this] f sz (roI r.1 r.2 sz) := by
  unfold DX9_write at h
  obtain ⟨_, hck, h⟩ := ob_some h
  refine mt_of (by decide) (Nat.le_of_ble_eq_true rfl) (?_ : V l g (fun _ => True) (RX9, cX9_write, 1, (Option.some Jvm.ClassFile.FieldType.int), [], "write") 11 (roI r.1 r.2 sz) 0 [(0, .ref this)] [] f sz 0 0)
  refine v_aload_n dX9_write_0 rfl rfl ?_
  obtain ⟨x1, hx1, h⟩ := ob_some h
  refine v_getR dX9_write_1 fl_X9_37 hx1 ?_
  rcases bWW_some h with ⟨x2, f4, hx3, h⟩ | ⟨e9, f4, hx3, h⟩
  rotate_left
  · cases h
    have ehx3 := tX8_writeAll (l := l) (g := g) (sz := sz) N x1 f hx3
    exact v_cVx dX9_write_4 ml_X9_210 ok_X8_writeAll ehx3 (kX8_writeAll N x1 f hx3) rfl (by decide) rfl (rest := []) rfl (Nat.le_of_ble_eq_true rfl) rfl rfl
  have ehx3 := tX8_writeAll (l := l) (g := g) (sz := sz) N x1 f hx3
  refine v_cVI dX9_write_4 ml_X9_210 ok_X8_writeAll ehx3 (kX8_writeAll N x1 f hx3) rfl (by decide) rfl (rest := []) rfl (Nat.le_of_ble_eq_true rfl) ?_
  obtain rfl := Option.some.inj h
  exact v_iret dX9_write_7 rfl rfl

/-! X9 at (RT) -/
def DX9_at (N : Nat) (this : Nat) (p0 : Int32) (f : HF) : Option (Int32 ⊕ String) :=
  (ck f this 8).bind fun _ =>
  (gR f this 8 3).bind fun x1 =>
  (gR f x1 7 1).bind fun x2 =>
  (DX5_has N x2 p0 f).bind fun x3 =>
  if x3 = 0 then
    some (.inr "java/lang/ArrayIndexOutOfBoundsException")
  else
    (gR f this 8 3).bind fun x5 =>
    (gR f x5 7 1).bind fun x6 =>
    (DX5_get N x6 p0 f).bind fun x7 =>
    some (.inl x7)

set_option maxRecDepth 20000 in
theorem kX9_at (N : Nat) (this : Nat) (p0 : Int32) (f : HF) {r : (Int32 ⊕ String)} (h : DX9_at N this p0 f = some r) : ck f this 8 = some () := by
  unfold DX9_at at h
  obtain ⟨_, hck, _⟩ := ob_some h
  exact hck

set_option maxRecDepth 20000 in
theorem tX9_at {l : Launch} {g : GT} {sz : Option Nat} (N : Nat) (this : Nat) (p0 : Int32) (f : HF) {r : (Int32 ⊕ String)} (h : DX9_at N this p0 f = some r) : Mt l g yX9_at cX9_at 2 (Option.some Jvm.ClassFile.FieldType.int) 8 [.ref this, .int p0] f sz (roI r f sz) := by
  unfold DX9_at at h
  obtain ⟨_, hck, h⟩ := ob_some h
  refine mt_of (by decide) (Nat.le_of_ble_eq_true rfl) (?_ : V l g (fun _ => True) (RX9, cX9_at, 2, (Option.some Jvm.ClassFile.FieldType.int), [], "at") 8 (roI r f sz) 0 [(0, .ref this), (1, .int p0)] [] f sz 0 0)
  refine v_aload_n dX9_at_0 rfl rfl ?_
  obtain ⟨x1, hx1, h⟩ := ob_some h
  refine v_getR dX9_at_1 fl_X9_37 hx1 ?_
  obtain ⟨x2, hx2, h⟩ := ob_some h
  refine v_getR dX9_at_4 fl_X9_213 hx2 ?_
  refine v_iload_n dX9_at_7 rfl rfl ?_
  obtain ⟨x3, hx4, h⟩ := ob_some h
  have ehx4 := tX5_has (l := l) (g := g) (sz := sz) N x2 p0 f hx4
  refine v_cVI dX9_at_8 ml_X9_173 ok_X5_has ehx4 (kX5_has N x2 p0 f hx4) rfl (by decide) rfl (rest := []) rfl (Nat.le_of_ble_eq_true rfl) ?_
  refine v_if_ne (tgt := 22) dX9_at_11 (by decide) (fun c9 => ?_) (fun c9 => ?_)
  · replace h := in_ c9 h
    refine v_aload_n dX9_at_22 rfl rfl ?_
    obtain ⟨x5, hx5, h⟩ := ob_some h
    refine v_getR dX9_at_23 fl_X9_37 hx5 ?_
    obtain ⟨x6, hx6, h⟩ := ob_some h
    refine v_getR dX9_at_26 fl_X9_213 hx6 ?_
    refine v_iload_n dX9_at_29 rfl rfl ?_
    obtain ⟨x7, hx8, h⟩ := ob_some h
    have ehx8 := tX5_get (l := l) (g := g) (sz := sz) N x6 p0 f hx8
    refine v_cVI dX9_at_30 ml_X9_179 ok_X5_get ehx8 (kX5_get N x6 p0 f hx8) rfl (by decide) rfl (rest := []) rfl (Nat.le_of_ble_eq_true rfl) ?_
    obtain rfl := Option.some.inj h
    exact v_iret dX9_at_33 rfl rfl
  · replace h := ip_ c9 h
    obtain rfl := Option.some.inj h
    exact v_thr dX9_at_14 dX9_at_17 dX9_at_18 dX9_at_21 th_X9_216_218 (by decide) rfl (Nat.le_of_ble_eq_true rfl) rfl

/-! X9 read (WT) -/
def DX9_read (N : Nat) (this : Nat) (p0 : Int32) (f : HF) : Option ((Int32 ⊕ String) × HF) :=
  (ck f this 8).bind fun _ =>
  if p0 < (-1 : Int32) then
    some (.inr "java/lang/IllegalArgumentException", f)
  else
    if p0 ≤ (255 : Int32) then
      if p0 = (-1 : Int32) then
        (gR f this 8 4).bind fun x11 =>
        bWW (DX4_readAll N x11 f) fun x12 f14 =>
        some (.inl x12, f14)
      else
        (gR f this 8 4).bind fun x1 =>
        (gR f x1 3 1).bind fun x2 =>
        bW (DX5_add N x2 p0 f) fun x3 f5 =>
        if x3 = 0 then
          some (.inr "java/lang/UnsupportedOperationException", f5)
        else
          (gR f5 this 8 4).bind fun x6 =>
          (gR f5 x6 3 1).bind fun x7 =>
          (DX5_count N x7 f5).bind fun x8 =>
          some (.inl x8, f5)
    else
      some (.inr "java/lang/IllegalArgumentException", f)

set_option maxRecDepth 20000 in
theorem kX9_read (N : Nat) (this : Nat) (p0 : Int32) (f : HF) {r : ((Int32 ⊕ String) × HF)} (h : DX9_read N this p0 f = some r) : ck f this 8 = some () := by
  unfold DX9_read at h
  obtain ⟨_, hck, _⟩ := ob_some h
  exact hck

set_option maxRecDepth 20000 in
theorem tX9_read {l : Launch} {g : GT} {sz : Option Nat} (N : Nat) (this : Nat) (p0 : Int32) (f : HF) {r : ((Int32 ⊕ String) × HF)} (h : DX9_read N this p0 f = some r) : Mt l g yX9_read cX9_read 2 (Option.some Jvm.ClassFile.FieldType.int) 14 [.ref this, .int p0] f sz (roI r.1 r.2 sz) := by
  unfold DX9_read at h
  obtain ⟨_, hck, h⟩ := ob_some h
  refine mt_of (by decide) (Nat.le_of_ble_eq_true rfl) (?_ : V l g (fun _ => True) (RX9, cX9_read, 2, (Option.some Jvm.ClassFile.FieldType.int), [], "read") 14 (roI r.1 r.2 sz) 0 [(0, .ref this), (1, .int p0)] [] f sz 0 0)
  refine v_iload_n dX9_read_0 rfl rfl ?_
  refine v_iconst (v := -1) dX9_read_1 (by decide) ?_
  refine v_icmp_lt (tgt := 12) dX9_read_2 (by decide) (fun c17 => ?_) (fun c17 => ?_)
  · replace h := ip_ c17 h
    obtain rfl := Option.some.inj h
    exact v_thr dX9_read_12 dX9_read_15 dX9_read_16 dX9_read_19 th_X9_70_72 (by decide) rfl (Nat.le_of_ble_eq_true rfl) rfl
  · replace h := in_ c17 h
    refine v_iload_n dX9_read_5 rfl rfl ?_
    refine v_sipush (v := 255) dX9_read_6 (by decide) ?_
    refine v_icmp_le (tgt := 20) dX9_read_9 (by decide) (fun c16 => ?_) (fun c16 => ?_)
    · replace h := ip_ c16 h
      refine v_iload_n dX9_read_20 rfl rfl ?_
      refine v_iconst (v := -1) dX9_read_21 (by decide) ?_
      refine v_icmp_ne (tgt := 33) dX9_read_22 (by decide) (fun c15 => ?_) (fun c15 => ?_)
      · replace h := in_ c15 h
        refine v_aload_n dX9_read_33 rfl rfl ?_
        obtain ⟨x1, hx1, h⟩ := ob_some h
        refine v_getR dX9_read_34 fl_X9_44 hx1 ?_
        obtain ⟨x2, hx2, h⟩ := ob_some h
        refine v_getR dX9_read_37 fl_X9_222 hx2 ?_
        refine v_iload_n dX9_read_40 rfl rfl ?_
        obtain ⟨x3, f5, hx4, h⟩ := bW_some h
        have ehx4 := tX5_add (l := l) (g := g) (sz := sz) N x2 p0 f hx4
        refine v_cVI dX9_read_41 ml_X9_125 ok_X5_add ehx4 (kX5_add N x2 p0 f hx4) rfl (by decide) rfl (rest := []) rfl (Nat.le_of_ble_eq_true rfl) ?_
        refine v_if_ne (tgt := 55) dX9_read_44 (by decide) (fun c10 => ?_) (fun c10 => ?_)
        · replace h := in_ c10 h
          refine v_aload_n dX9_read_55 rfl rfl ?_
          obtain ⟨x6, hx6, h⟩ := ob_some h
          refine v_getR dX9_read_56 fl_X9_44 hx6 ?_
          obtain ⟨x7, hx7, h⟩ := ob_some h
          refine v_getR dX9_read_59 fl_X9_222 hx7 ?_
          obtain ⟨x8, hx9, h⟩ := ob_some h
          have ehx9 := tX5_count (l := l) (g := g) (sz := sz) N x7 f5 hx9
          refine v_cVI dX9_read_62 ml_X9_130 ok_X5_count ehx9 (kX5_count N x7 f5 hx9) rfl (by decide) rfl (rest := []) rfl (Nat.le_of_ble_eq_true rfl) ?_
          obtain rfl := Option.some.inj h
          exact v_iret dX9_read_65 rfl rfl
        · replace h := ip_ c10 h
          obtain rfl := Option.some.inj h
          exact v_thr dX9_read_47 dX9_read_50 dX9_read_51 dX9_read_54 th_X9_127_129 (by decide) rfl (Nat.le_of_ble_eq_true rfl) rfl
      · replace h := ip_ c15 h
        refine v_aload_n dX9_read_25 rfl rfl ?_
        obtain ⟨x11, hx11, h⟩ := ob_some h
        refine v_getR dX9_read_26 fl_X9_44 hx11 ?_
        rcases bWW_some h with ⟨x12, f14, hx13, h⟩ | ⟨e9, f14, hx13, h⟩
        rotate_left
        · cases h
          have ehx13 := tX4_readAll (l := l) (g := g) (sz := sz) N x11 f hx13
          exact v_cVx dX9_read_29 ml_X9_219 ok_X4_readAll ehx13 (kX4_readAll N x11 f hx13) rfl (by decide) rfl (rest := []) rfl (Nat.le_of_ble_eq_true rfl) rfl rfl
        have ehx13 := tX4_readAll (l := l) (g := g) (sz := sz) N x11 f hx13
        refine v_cVI dX9_read_29 ml_X9_219 ok_X4_readAll ehx13 (kX4_readAll N x11 f hx13) rfl (by decide) rfl (rest := []) rfl (Nat.le_of_ble_eq_true rfl) ?_
        obtain rfl := Option.some.inj h
        exact v_iret dX9_read_32 rfl rfl
    · replace h := in_ c16 h
      obtain rfl := Option.some.inj h
      exact v_thr dX9_read_12 dX9_read_15 dX9_read_16 dX9_read_19 th_X9_70_72 (by decide) rfl (Nat.le_of_ble_eq_true rfl) rfl

/-! X9 lock (WT) -/
def DX9_lock_18 (N : Nat)  (v2 : Int32) (v3 : Nat) (s0 : Int32) (f : HF) : Option ((Int32 ⊕ String) × HF) :=
    if v2 = 0 ∨ v2 = 1 then
    (pV f v3 1 6 (.int v2)).bind fun f4 =>
    some (.inl s0, f4)
    else none

def DX9_lock (N : Nat) (this : Nat) (p0 : Int32) (p1 : Int32) (f : HF) : Option ((Int32 ⊕ String) × HF) :=
  (ck f this 8).bind fun _ =>
  bRW (DX9_masterWithValue N this p0 f) f fun x1 =>
  (gI f x1 1 6).bind fun x3 =>
  if x3 = 0 then
    DX9_lock_18 N p1 x1 (0 : Int32) f
  else
    DX9_lock_18 N p1 x1 (1 : Int32) f

set_option maxRecDepth 20000 in
theorem tX9_lock_18 {l : Launch} {g : GT} {sz : Option Nat} (N : Nat)  {r : ((Int32 ⊕ String) × HF)} : ∀ (v2 : Int32) (v3 : Nat) (s0 : Int32) (f : HF), DX9_lock_18 N v2 v3 s0 f = some r → V l g (fun _ => True) (RX9, cX9_lock, 5, (Option.some Jvm.ClassFile.FieldType.int), [], "lock") 11 (roI r.1 r.2 sz) 18 [(2, .int v2), (3, .ref v3)] [.int s0] f sz 0 0 := by
  intro v2 v3 s0 f h
  unfold DX9_lock_18 at h
  refine v_istore (ls1 := [(4, .int s0), (2, .int v2), (3, .ref v3)]) dX9_lock_18 (by decide) rfl ?_
  refine v_aload_n dX9_lock_20 rfl rfl ?_
  refine v_iload_n dX9_lock_21 rfl rfl ?_
  obtain ⟨hB, h⟩ := if_some h
  obtain ⟨f4, hf4, h⟩ := ob_some h
  refine v_pZ dX9_lock_22 fp_X9_94 hB hf4 ?_
  refine v_iload dX9_lock_25 rfl ?_
  obtain rfl := Option.some.inj h
  exact v_iret dX9_lock_27 rfl rfl

set_option maxRecDepth 20000 in
theorem kX9_lock (N : Nat) (this : Nat) (p0 : Int32) (p1 : Int32) (f : HF) {r : ((Int32 ⊕ String) × HF)} (h : DX9_lock N this p0 p1 f = some r) : ck f this 8 = some () := by
  unfold DX9_lock at h
  obtain ⟨_, hck, _⟩ := ob_some h
  exact hck

set_option maxRecDepth 20000 in
theorem tX9_lock {l : Launch} {g : GT} {sz : Option Nat} (N : Nat) (this : Nat) (p0 : Int32) (p1 : Int32) (f : HF) {r : ((Int32 ⊕ String) × HF)} (h : DX9_lock N this p0 p1 f = some r) : Mt l g yX9_lock cX9_lock 5 (Option.some Jvm.ClassFile.FieldType.int) 11 [.ref this, .int p0, .int p1] f sz (roI r.1 r.2 sz) := by
  unfold DX9_lock at h
  obtain ⟨_, hck, h⟩ := ob_some h
  refine mt_of (by decide) (Nat.le_of_ble_eq_true rfl) (?_ : V l g (fun _ => True) (RX9, cX9_lock, 5, (Option.some Jvm.ClassFile.FieldType.int), [], "lock") 11 (roI r.1 r.2 sz) 0 [(0, .ref this), (1, .int p0), (2, .int p1)] [] f sz 0 0)
  refine v_aload_n dX9_lock_0 rfl rfl ?_
  refine v_iload_n dX9_lock_1 rfl rfl ?_
  rcases bRW_some h with ⟨x1, hx2, h⟩ | ⟨e9, hx2, h⟩
  rotate_left
  · cases h
    have ehx2 := tX9_masterWithValue (l := l) (g := g) (sz := sz) N this p0 f hx2
    exact v_cVx dX9_lock_2 ml_X9_188 ok_X9_masterWithValue ehx2 (kX9_masterWithValue N this p0 f hx2) rfl (by decide) rfl (rest := []) rfl (Nat.le_of_ble_eq_true rfl) rfl rfl
  have ehx2 := tX9_masterWithValue (l := l) (g := g) (sz := sz) N this p0 f hx2
  refine v_cVR dX9_lock_2 ml_X9_188 ok_X9_masterWithValue ehx2 (kX9_masterWithValue N this p0 f hx2) rfl (by decide) rfl (rest := []) rfl (Nat.le_of_ble_eq_true rfl) ?_
  refine v_astore_n (ls1 := [(3, .ref x1), (0, .ref this), (1, .int p0), (2, .int p1)]) dX9_lock_5 rfl (by decide) rfl ?_
  refine v_aload_n dX9_lock_6 rfl rfl ?_
  obtain ⟨x3, hx3, h⟩ := ob_some h
  refine v_getI dX9_lock_7 fl_X9_94 hx3 ?_
  refine v_if_eq (tgt := 17) dX9_lock_10 (by decide) (fun c5 => ?_) (fun c5 => ?_)
  · replace h := ip_ c5 h
    refine v_iconst (v := 0) dX9_lock_17 (by decide) ?_
    exact v_sub (vs_c rfl (vs_c rfl vs_n)) (tX9_lock_18 N p1 x1 (0 : Int32) f h)
  · replace h := in_ c5 h
    refine v_iconst (v := 1) dX9_lock_13 (by decide) ?_
    refine v_goto (tgt := 18) dX9_lock_14 (by decide) ?_
    exact v_sub (vs_c rfl (vs_c rfl vs_n)) (tX9_lock_18 N p1 x1 (1 : Int32) f h)

