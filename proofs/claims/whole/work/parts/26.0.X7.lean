/-! X7 showNumber (W) -/
def DX7_showNumber_23 (N : Nat)  (v0 : Nat) (v1 : Nat) (f : HF) : Option (Unit × HF) :=
    (gR f v0 6 0).bind fun x3 =>
    (gR f v1 1 8).bind fun x4 =>
    bW (DX5_become N x3 x4 f) fun x5 f7 =>
    some ((), f7)

def DX7_showNumber_57 (N : Nat)  (v0 : Nat) (s0 : Int64) (s1 : Int32) (s2 : Int32) (f : HF) : Option (Unit × HF) :=
    (gR f v0 6 0).bind fun x15 =>
    bW (DX0_addShown N s0 s1 s2 x15 f) fun x16 f18 =>
    some ((), f18)

def DX7_showNumber (N : Nat) (this : Nat) (p0 : Nat) (f : HF) : Option (Unit × HF) :=
  (ck f this 6).bind fun _ =>
  (DX2_amount N p0 f).bind fun x1 =>
  if x1 = (-9223372036854775808 : Int64) then
    DX7_showNumber_23 N this p0 f
  else
    (gR f p0 1 8).bind fun x8 =>
    (DX5_count N x8 f).bind fun x9 =>
    if x9 = 0 then
      DX7_showNumber_23 N this p0 f
    else
      (gR f p0 1 7).bind fun x11 =>
      (aI f x11 0 (3 : Int32)).bind fun x12 =>
      (gR f p0 1 7).bind fun x13 =>
      (aI f x13 0 (4 : Int32)).bind fun x14 =>
      if x14 = (1 : Int32) then
        DX7_showNumber_57 N this x1 x12 (1 : Int32) f
      else
        DX7_showNumber_57 N this x1 x12 (0 : Int32) f

set_option maxRecDepth 20000 in
theorem tX7_showNumber_23 {l : Launch} {g : GT} {sz : Option Nat} (N : Nat)  {r : (Unit × HF)} : ∀ (v0 : Nat) (v1 : Nat) (f : HF), DX7_showNumber_23 N v0 v1 f = some r → V l g (fun _ => True) (RX7, cX7_showNumber, 4, (Option.none : Option Jvm.ClassFile.FieldType), [], "showNumber") 4 (roU (.inl r.1) r.2 sz) 23 [(0, .ref v0), (1, .ref v1)] [] f sz 0 0 := by
  intro v0 v1 f h
  unfold DX7_showNumber_23 at h
  refine v_aload_n dX7_showNumber_23 rfl rfl ?_
  obtain ⟨x3, hx3, h⟩ := ob_some h
  refine v_getR dX7_showNumber_24 fl_X7_14 hx3 ?_
  refine v_aload_n dX7_showNumber_27 rfl rfl ?_
  obtain ⟨x4, hx4, h⟩ := ob_some h
  refine v_getR dX7_showNumber_28 fl_X7_29 hx4 ?_
  obtain ⟨x5, f7, hx6, h⟩ := bW_some h
  have ehx6 := tX5_become (l := l) (g := g) (sz := sz) N x3 x4 f hx6
  refine v_cVU dX7_showNumber_31 ml_X7_30 ok_X5_become ehx6 (kX5_become N x3 x4 f hx6) rfl (by decide) rfl (rest := []) rfl (Nat.le_of_ble_eq_true rfl) ?_
  obtain rfl := Option.some.inj h
  exact v_vret dX7_showNumber_34 rfl rfl

set_option maxRecDepth 20000 in
theorem tX7_showNumber_57 {l : Launch} {g : GT} {sz : Option Nat} (N : Nat)  {r : (Unit × HF)} : ∀ (v0 : Nat) (s0 : Int64) (s1 : Int32) (s2 : Int32) (f : HF), DX7_showNumber_57 N v0 s0 s1 s2 f = some r → V l g (fun _ => True) (RX7, cX7_showNumber, 4, (Option.none : Option Jvm.ClassFile.FieldType), [], "showNumber") 4 (roU (.inl r.1) r.2 sz) 57 [(0, .ref v0)] [.int s2, .int s1, .long s0] f sz 0 0 := by
  intro v0 s0 s1 s2 f h
  unfold DX7_showNumber_57 at h
  refine v_aload_n dX7_showNumber_57 rfl rfl ?_
  obtain ⟨x15, hx15, h⟩ := ob_some h
  refine v_getR dX7_showNumber_58 fl_X7_14 hx15 ?_
  obtain ⟨x16, f18, hx17, h⟩ := bW_some h
  have ehx17 := tX0_addShown (l := l) (g := g) (sz := sz) N s0 s1 s2 x15 f hx17
  refine v_cSU dX7_showNumber_61 ml_X7_75 ok_X0_addShown ehx17 (by decide) rfl (rest := []) rfl (Nat.le_of_ble_eq_true rfl) ?_
  obtain rfl := Option.some.inj h
  exact v_vret dX7_showNumber_64 rfl rfl

set_option maxRecDepth 20000 in
theorem kX7_showNumber (N : Nat) (this : Nat) (p0 : Nat) (f : HF) {r : (Unit × HF)} (h : DX7_showNumber N this p0 f = some r) : ck f this 6 = some () := by
  unfold DX7_showNumber at h
  obtain ⟨_, hck, _⟩ := ob_some h
  exact hck

set_option maxRecDepth 20000 in
theorem tX7_showNumber {l : Launch} {g : GT} {sz : Option Nat} (N : Nat) (this : Nat) (p0 : Nat) (f : HF) {r : (Unit × HF)} (h : DX7_showNumber N this p0 f = some r) : Mt l g yX7_showNumber cX7_showNumber 4 (Option.none : Option Jvm.ClassFile.FieldType) 4 [.ref this, .ref p0] f sz (roU (.inl r.1) r.2 sz) := by
  unfold DX7_showNumber at h
  obtain ⟨_, hck, h⟩ := ob_some h
  refine mt_of (by decide) (Nat.le_of_ble_eq_true rfl) (?_ : V l g (fun _ => True) (RX7, cX7_showNumber, 4, (Option.none : Option Jvm.ClassFile.FieldType), [], "showNumber") 4 (roU (.inl r.1) r.2 sz) 0 [(0, .ref this), (1, .ref p0)] [] f sz 0 0)
  refine v_aload_n dX7_showNumber_0 rfl rfl ?_
  obtain ⟨x1, hx2, h⟩ := ob_some h
  have ehx2 := tX2_amount (l := l) (g := g) (sz := sz) N p0 f hx2
  refine v_cVL dX7_showNumber_1 ml_X7_61 ok_X2_amount ehx2 (kX2_amount N p0 f hx2) rfl (by decide) rfl (rest := []) rfl (Nat.le_of_ble_eq_true rfl) ?_
  refine v_lstore_n (ls1 := [(2, .long x1), (0, .ref this), (1, .ref p0)]) dX7_showNumber_4 rfl (by decide) rfl ?_
  refine v_lload_n dX7_showNumber_5 rfl rfl ?_
  refine v_ldc2 dX7_showNumber_6 kc_X7_65 ?_
  refine v_lcmp_eq (tgt := 23) dX7_showNumber_9 dX7_showNumber_10 (by decide) (fun c21 => ?_) (fun c21 => ?_)
  · replace h := ip_ c21 h
    exact v_sub (vs_c rfl (vs_c rfl vs_n)) (tX7_showNumber_23 N this p0 f h)
  · replace h := in_ c21 h
    refine v_aload_n dX7_showNumber_13 rfl rfl ?_
    obtain ⟨x8, hx8, h⟩ := ob_some h
    refine v_getR dX7_showNumber_14 fl_X7_29 hx8 ?_
    obtain ⟨x9, hx10, h⟩ := ob_some h
    have ehx10 := tX5_count (l := l) (g := g) (sz := sz) N x8 f hx10
    refine v_cVI dX7_showNumber_17 ml_X7_67 ok_X5_count ehx10 (kX5_count N x8 f hx10) rfl (by decide) rfl (rest := []) rfl (Nat.le_of_ble_eq_true rfl) ?_
    refine v_if_ne (tgt := 35) dX7_showNumber_20 (by decide) (fun c20 => ?_) (fun c20 => ?_)
    · replace h := in_ c20 h
      refine v_lload_n dX7_showNumber_35 rfl rfl ?_
      refine v_aload_n dX7_showNumber_36 rfl rfl ?_
      obtain ⟨x11, hx11, h⟩ := ob_some h
      refine v_getR dX7_showNumber_37 fl_X7_71 hx11 ?_
      refine v_iconst (v := 3) dX7_showNumber_40 (by decide) ?_
      obtain ⟨x12, hx12, h⟩ := ob_some h
      refine v_iald dX7_showNumber_41 hx12 ?_
      refine v_aload_n dX7_showNumber_42 rfl rfl ?_
      obtain ⟨x13, hx13, h⟩ := ob_some h
      refine v_getR dX7_showNumber_43 fl_X7_71 hx13 ?_
      refine v_iconst (v := 4) dX7_showNumber_46 (by decide) ?_
      obtain ⟨x14, hx14, h⟩ := ob_some h
      refine v_iald dX7_showNumber_47 hx14 ?_
      refine v_iconst (v := 1) dX7_showNumber_48 (by decide) ?_
      refine v_icmp_ne (tgt := 56) dX7_showNumber_49 (by decide) (fun c19 => ?_) (fun c19 => ?_)
      · replace h := in_ c19 h
        refine v_iconst (v := 0) dX7_showNumber_56 (by decide) ?_
        exact v_sub (vs_c rfl vs_n) (tX7_showNumber_57 N this x1 x12 (0 : Int32) f h)
      · replace h := ip_ c19 h
        refine v_iconst (v := 1) dX7_showNumber_52 (by decide) ?_
        refine v_goto (tgt := 57) dX7_showNumber_53 (by decide) ?_
        exact v_sub (vs_c rfl vs_n) (tX7_showNumber_57 N this x1 x12 (1 : Int32) f h)
    · replace h := ip_ c20 h
      exact v_sub (vs_c rfl (vs_c rfl vs_n)) (tX7_showNumber_23 N this p0 f h)

/-! X7 show (W) -/
def DX7_show_124 (N : Nat)  (v0 : Nat) (f : HF) : Option (Nat × HF) :=
    (gR f v0 6 0).bind fun x12 =>
    some (x12, f)

def DX7_show_87 (N : Nat)  (v0 : Nat) (v1 : Nat) (f : HF) : Option (Nat × HF) :=
    (gR f v1 1 9).bind fun x21 =>
    (gI f v1 1 10).bind fun x22 =>
    (DX5_has N x21 x22 f).bind fun x23 =>
    if x23 = 0 then
      DX7_show_124 N v0 f
    else
      (gR f v1 1 9).bind fun x25 =>
      (gI f v1 1 10).bind fun x26 =>
      (DX5_get N x25 x26 f).bind fun x27 =>
      (gR f v0 6 0).bind fun x29 =>
      bW (DX0_addNumber N (x27.toInt64) (0 : Int32) x29 f) fun x30 f32 =>
      DX7_show_124 N v0 f32

def DX7_show (N : Nat) (this : Nat) (p0 : Nat) (f : HF) : Option (Nat × HF) :=
  (ck f this 6).bind fun _ =>
  (gR f this 6 0).bind fun x1 =>
  bW (DX5_clear N x1 f) fun x2 f4 =>
  (gI f4 p0 1 1).bind fun x5 =>
  if x5 = 1 then
    (gR f4 this 6 0).bind fun x7 =>
    (gR f4 p0 1 8).bind fun x8 =>
    bW (DX5_become N x7 x8 f4) fun x9 f11 =>
    DX7_show_124 N this f11
  else
  if x5 = 2 then
    (gI f4 p0 1 10).bind fun x14 =>
    if x14 = (1 : Int32) then
      (gR f4 this 6 0).bind fun x15 =>
      bW (DX5_add N x15 (88 : Int32) f4) fun x16 f18 =>
      DX7_show_124 N this f18
    else
      DX7_show_124 N this f4
  else
  if x5 = 3 then
    DX7_show_87 N this p0 f4
  else
  if x5 = 4 then
    DX7_show_87 N this p0 f4
  else
  if x5 = 5 then
    bW (DX7_showNumber N this p0 f4) fun x36 f38 =>
    DX7_show_124 N this f38
  else
  DX7_show_124 N this f4

set_option maxRecDepth 20000 in
theorem tX7_show_124 {l : Launch} {g : GT} {sz : Option Nat} (N : Nat)  {r : (Nat × HF)} : ∀ (v0 : Nat) (f : HF), DX7_show_124 N v0 f = some r → V l g (fun _ => True) (RX7, cX7_show, 2, (Option.some (Jvm.ClassFile.FieldType.object "FormFields$Row")), [], "show") 5 (roR (.inl r.1) r.2 sz) 124 [(0, .ref v0)] [] f sz 0 0 := by
  intro v0 f h
  unfold DX7_show_124 at h
  refine v_aload_n dX7_show_124 rfl rfl ?_
  obtain ⟨x12, hx12, h⟩ := ob_some h
  refine v_getR dX7_show_125 fl_X7_14 hx12 ?_
  obtain rfl := Option.some.inj h
  exact v_aret dX7_show_128 rfl rfl

set_option maxRecDepth 20000 in
theorem tX7_show_87 {l : Launch} {g : GT} {sz : Option Nat} (N : Nat)  {r : (Nat × HF)} : ∀ (v0 : Nat) (v1 : Nat) (f : HF), DX7_show_87 N v0 v1 f = some r → V l g (fun _ => True) (RX7, cX7_show, 2, (Option.some (Jvm.ClassFile.FieldType.object "FormFields$Row")), [], "show") 5 (roR (.inl r.1) r.2 sz) 87 [(0, .ref v0), (1, .ref v1)] [] f sz 0 0 := by
  intro v0 v1 f h
  unfold DX7_show_87 at h
  refine v_aload_n dX7_show_87 rfl rfl ?_
  obtain ⟨x21, hx21, h⟩ := ob_some h
  refine v_getR dX7_show_88 fl_X7_45 hx21 ?_
  refine v_aload_n dX7_show_91 rfl rfl ?_
  obtain ⟨x22, hx22, h⟩ := ob_some h
  refine v_getI dX7_show_92 fl_X7_38 hx22 ?_
  obtain ⟨x23, hx24, h⟩ := ob_some h
  have ehx24 := tX5_has (l := l) (g := g) (sz := sz) N x21 x22 f hx24
  refine v_cVI dX7_show_95 ml_X7_48 ok_X5_has ehx24 (kX5_has N x21 x22 f hx24) rfl (by decide) rfl (rest := []) rfl (Nat.le_of_ble_eq_true rfl) ?_
  refine v_if_eq (tgt := 124) dX7_show_98 (by decide) (fun c33 => ?_) (fun c33 => ?_)
  · replace h := ip_ c33 h
    exact v_sub (vs_c rfl vs_n) (tX7_show_124 N v0 f h)
  · replace h := in_ c33 h
    refine v_aload_n dX7_show_101 rfl rfl ?_
    obtain ⟨x25, hx25, h⟩ := ob_some h
    refine v_getR dX7_show_102 fl_X7_45 hx25 ?_
    refine v_aload_n dX7_show_105 rfl rfl ?_
    obtain ⟨x26, hx26, h⟩ := ob_some h
    refine v_getI dX7_show_106 fl_X7_38 hx26 ?_
    obtain ⟨x27, hx28, h⟩ := ob_some h
    have ehx28 := tX5_get (l := l) (g := g) (sz := sz) N x25 x26 f hx28
    refine v_cVI dX7_show_109 ml_X7_51 ok_X5_get ehx28 (kX5_get N x25 x26 f hx28) rfl (by decide) rfl (rest := []) rfl (Nat.le_of_ble_eq_true rfl) ?_
    refine v_i2l dX7_show_112 ?_
    refine v_iconst (v := 0) dX7_show_113 (by decide) ?_
    refine v_aload_n dX7_show_114 rfl rfl ?_
    obtain ⟨x29, hx29, h⟩ := ob_some h
    refine v_getR dX7_show_115 fl_X7_14 hx29 ?_
    obtain ⟨x30, f32, hx31, h⟩ := bW_some h
    have ehx31 := tX0_addNumber (l := l) (g := g) (sz := sz) N (x27.toInt64) (0 : Int32) x29 f hx31
    refine v_cSU dX7_show_118 ml_X7_55 ok_X0_addNumber ehx31 (by decide) rfl (rest := []) rfl (Nat.le_of_ble_eq_true rfl) ?_
    refine v_goto (tgt := 124) dX7_show_121 (by decide) ?_
    exact v_sub (vs_c rfl vs_n) (tX7_show_124 N v0 f32 h)

set_option maxRecDepth 20000 in
theorem kX7_show (N : Nat) (this : Nat) (p0 : Nat) (f : HF) {r : (Nat × HF)} (h : DX7_show N this p0 f = some r) : ck f this 6 = some () := by
  unfold DX7_show at h
  obtain ⟨_, hck, _⟩ := ob_some h
  exact hck

set_option maxRecDepth 20000 in
theorem tX7_show {l : Launch} {g : GT} {sz : Option Nat} (N : Nat) (this : Nat) (p0 : Nat) (f : HF) {r : (Nat × HF)} (h : DX7_show N this p0 f = some r) : Mt l g yX7_show cX7_show 2 (Option.some (Jvm.ClassFile.FieldType.object "FormFields$Row")) 5 [.ref this, .ref p0] f sz (roR (.inl r.1) r.2 sz) := by
  unfold DX7_show at h
  obtain ⟨_, hck, h⟩ := ob_some h
  refine mt_of (by decide) (Nat.le_of_ble_eq_true rfl) (?_ : V l g (fun _ => True) (RX7, cX7_show, 2, (Option.some (Jvm.ClassFile.FieldType.object "FormFields$Row")), [], "show") 5 (roR (.inl r.1) r.2 sz) 0 [(0, .ref this), (1, .ref p0)] [] f sz 0 0)
  refine v_aload_n dX7_show_0 rfl rfl ?_
  obtain ⟨x1, hx1, h⟩ := ob_some h
  refine v_getR dX7_show_1 fl_X7_14 hx1 ?_
  obtain ⟨x2, f4, hx3, h⟩ := bW_some h
  have ehx3 := tX5_clear (l := l) (g := g) (sz := sz) N x1 f hx3
  refine v_cVU dX7_show_4 ml_X7_20 ok_X5_clear ehx3 (kX5_clear N x1 f hx3) rfl (by decide) rfl (rest := []) rfl (Nat.le_of_ble_eq_true rfl) ?_
  refine v_aload_n dX7_show_7 rfl rfl ?_
  obtain ⟨x5, hx5, h⟩ := ob_some h
  refine v_getI dX7_show_8 fl_X7_23 hx5 ?_
  by_cases c6 : x5 = 1
  · replace h := ip_ c6 h
    refine v_tableIn (tgt := 44) (off := 33) dX7_show_11 (by rw [c6] <;> decide) (by rw [c6] <;> decide) (by rw [c6] <;> rfl) (by decide) ?_
    refine v_aload_n dX7_show_44 rfl rfl ?_
    obtain ⟨x7, hx7, h⟩ := ob_some h
    refine v_getR dX7_show_45 fl_X7_14 hx7 ?_
    refine v_aload_n dX7_show_48 rfl rfl ?_
    obtain ⟨x8, hx8, h⟩ := ob_some h
    refine v_getR dX7_show_49 fl_X7_29 hx8 ?_
    obtain ⟨x9, f11, hx10, h⟩ := bW_some h
    have ehx10 := tX5_become (l := l) (g := g) (sz := sz) N x7 x8 f4 hx10
    refine v_cVU dX7_show_52 ml_X7_30 ok_X5_become ehx10 (kX5_become N x7 x8 f4 hx10) rfl (by decide) rfl (rest := []) rfl (Nat.le_of_ble_eq_true rfl) ?_
    refine v_goto (tgt := 124) dX7_show_55 (by decide) ?_
    exact v_sub (vs_c rfl vs_n) (tX7_show_124 N this f11 h)
  replace h := in_ c6 h
  by_cases c13 : x5 = 2
  · replace h := ip_ c13 h
    refine v_tableIn (tgt := 66) (off := 55) dX7_show_11 (by rw [c13] <;> decide) (by rw [c13] <;> decide) (by rw [c13] <;> rfl) (by decide) ?_
    refine v_aload_n dX7_show_66 rfl rfl ?_
    obtain ⟨x14, hx14, h⟩ := ob_some h
    refine v_getI dX7_show_67 fl_X7_38 hx14 ?_
    refine v_iconst (v := 1) dX7_show_70 (by decide) ?_
    refine v_icmp_ne (tgt := 124) dX7_show_71 (by decide) (fun c19 => ?_) (fun c19 => ?_)
    · replace h := in_ c19 h
      exact v_sub (vs_c rfl vs_n) (tX7_show_124 N this f4 h)
    · replace h := ip_ c19 h
      refine v_aload_n dX7_show_74 rfl rfl ?_
      obtain ⟨x15, hx15, h⟩ := ob_some h
      refine v_getR dX7_show_75 fl_X7_14 hx15 ?_
      refine v_bipush (v := 88) dX7_show_78 (by decide) ?_
      obtain ⟨x16, f18, hx17, h⟩ := bW_some h
      have ehx17 := tX5_add (l := l) (g := g) (sz := sz) N x15 (88 : Int32) f4 hx17
      refine v_cVI dX7_show_80 ml_X7_41 ok_X5_add ehx17 (kX5_add N x15 (88 : Int32) f4 hx17) rfl (by decide) rfl (rest := []) rfl (Nat.le_of_ble_eq_true rfl) ?_
      refine v_pop dX7_show_83 rfl ?_
      refine v_goto (tgt := 124) dX7_show_84 (by decide) ?_
      exact v_sub (vs_c rfl vs_n) (tX7_show_124 N this f18 h)
  replace h := in_ c13 h
  by_cases c20 : x5 = 3
  · replace h := ip_ c20 h
    refine v_tableIn (tgt := 87) (off := 76) dX7_show_11 (by rw [c20] <;> decide) (by rw [c20] <;> decide) (by rw [c20] <;> rfl) (by decide) ?_
    exact v_sub (vs_c rfl (vs_c rfl vs_n)) (tX7_show_87 N this p0 f4 h)
  replace h := in_ c20 h
  by_cases c34 : x5 = 4
  · replace h := ip_ c34 h
    refine v_tableIn (tgt := 87) (off := 76) dX7_show_11 (by rw [c34] <;> decide) (by rw [c34] <;> decide) (by rw [c34] <;> rfl) (by decide) ?_
    exact v_sub (vs_c rfl (vs_c rfl vs_n)) (tX7_show_87 N this p0 f4 h)
  replace h := in_ c34 h
  by_cases c35 : x5 = 5
  · replace h := ip_ c35 h
    refine v_tableIn (tgt := 58) (off := 47) dX7_show_11 (by rw [c35] <;> decide) (by rw [c35] <;> decide) (by rw [c35] <;> rfl) (by decide) ?_
    refine v_aload_n dX7_show_58 rfl rfl ?_
    refine v_aload_n dX7_show_59 rfl rfl ?_
    obtain ⟨x36, f38, hx37, h⟩ := bW_some h
    have ehx37 := tX7_showNumber (l := l) (g := g) (sz := sz) N this p0 f4 hx37
    refine v_cVU dX7_show_60 ml_X7_34 ok_X7_showNumber ehx37 (kX7_showNumber N this p0 f4 hx37) rfl (by decide) rfl (rest := []) rfl (Nat.le_of_ble_eq_true rfl) ?_
    refine v_goto (tgt := 124) dX7_show_63 (by decide) ?_
    exact v_sub (vs_c rfl vs_n) (tX7_show_124 N this f38 h)
  replace h := in_ c35 h
  refine v_tableOut (tgt := 124) dX7_show_11 (tsw_out x5 1 5 (fun z z1 z2 => by
    rcases (show z = 1 ∨ z = 2 ∨ z = 3 ∨ z = 4 ∨ z = 5 by omega) with rfl | rfl | rfl | rfl | rfl
    · exact c6
    · exact c13
    · exact c20
    · exact c34
    · exact c35
    )) (by decide) ?_
  exact v_sub (vs_c rfl vs_n) (tX7_show_124 N this f4 h)

/-! X7 sizeFor (R) -/
def DX7_sizeFor_50 (N : Nat) (f : HF) (k3 : Nat → Int32 → Int32 → Option Int32) (v0 : Nat) (v1 : Int32) (v2 : Int32) : Option Int32 :=
    k3 v0 v1 (v2 / (2 : Int32))

def DX7_sizeFor_28 (N : Nat) (f : HF) (k3 : Nat → Int32 → Int32 → Option Int32) (v0 : Nat) (v1 : Int32) (v2 : Int32) (s0 : Int32) : Option Int32 :=
    if s0 = 0 then
      DX7_sizeFor_50 N f k3 v0 v1 v2
    else
      (gR f v0 1 7).bind fun x3 =>
      (aI f x3 0 (6 : Int32)).bind fun x4 =>
      if x4 < (v2 + (v2 / (4 : Int32))) then
        DX7_sizeFor_50 N f k3 v0 v1 v2
      else
        some v2

def DX7_sizeFor_3 (N : Nat) (f : HF)  (n : Nat) (v0 : Nat) (v1 : Int32) (v2 : Int32) : Option Int32 :=
  match n with
  | 0 => none
  | n + 1 =>
    if v2 < (6 : Int32) then
      some (-6 : Int32)
    else
      (gR f v0 1 7).bind fun x1 =>
      (aI f x1 0 (5 : Int32)).bind fun x2 =>
      if x2 < (v1 * (v2 / (2 : Int32))) then
        DX7_sizeFor_28 N f (DX7_sizeFor_3 N f n) v0 v1 v2 (0 : Int32)
      else
        DX7_sizeFor_28 N f (DX7_sizeFor_3 N f n) v0 v1 v2 (1 : Int32)

def DX7_sizeFor (N : Nat) (p0 : Nat) (p1 : Int32) (f : HF) : Option Int32 :=
  DX7_sizeFor_3 N f N p0 p1 (96 : Int32)

set_option maxRecDepth 20000 in
theorem tX7_sizeFor_50 {l : Launch} {g : GT} {sz : Option Nat} (N : Nat) (f : HF) (k3 : Nat → Int32 → Int32 → Option Int32) {r : Int32} (hk3 : ∀ (w0 : Nat) (w1 : Int32) (w2 : Int32), k3 w0 w1 w2 = some r → V l g (fun _ => True) (RX7, cX7_sizeFor, 4, (Option.some Jvm.ClassFile.FieldType.int), [], "sizeFor") 0 (roI (.inl r) f sz) 3 [(0, .ref w0), (1, .int w1), (2, .int w2)] [] f sz 0 0) : ∀ (v0 : Nat) (v1 : Int32) (v2 : Int32), DX7_sizeFor_50 N f k3 v0 v1 v2 = some r → V l g (fun _ => True) (RX7, cX7_sizeFor, 4, (Option.some Jvm.ClassFile.FieldType.int), [], "sizeFor") 0 (roI (.inl r) f sz) 50 [(0, .ref v0), (1, .int v1), (2, .int v2)] [] f sz 0 0 := by
  intro v0 v1 v2 h
  unfold DX7_sizeFor_50 at h
  refine v_iload_n dX7_sizeFor_50 rfl rfl ?_
  refine v_iconst (v := 2) dX7_sizeFor_51 (by decide) ?_
  refine v_idiv dX7_sizeFor_52 (by decide) ?_
  refine v_istore_n (ls1 := [(2, .int (v2 / (2 : Int32))), (0, .ref v0), (1, .int v1)]) dX7_sizeFor_53 rfl (by decide) rfl ?_
  refine v_goto (tgt := 3) dX7_sizeFor_54 (by decide) ?_
  exact v_sub (vs_c rfl (vs_c rfl (vs_c rfl vs_n))) (hk3 v0 v1 (v2 / (2 : Int32)) h)

set_option maxRecDepth 20000 in
theorem tX7_sizeFor_28 {l : Launch} {g : GT} {sz : Option Nat} (N : Nat) (f : HF) (k3 : Nat → Int32 → Int32 → Option Int32) {r : Int32} (hk3 : ∀ (w0 : Nat) (w1 : Int32) (w2 : Int32), k3 w0 w1 w2 = some r → V l g (fun _ => True) (RX7, cX7_sizeFor, 4, (Option.some Jvm.ClassFile.FieldType.int), [], "sizeFor") 0 (roI (.inl r) f sz) 3 [(0, .ref w0), (1, .int w1), (2, .int w2)] [] f sz 0 0) : ∀ (v0 : Nat) (v1 : Int32) (v2 : Int32) (s0 : Int32), DX7_sizeFor_28 N f k3 v0 v1 v2 s0 = some r → V l g (fun _ => True) (RX7, cX7_sizeFor, 4, (Option.some Jvm.ClassFile.FieldType.int), [], "sizeFor") 0 (roI (.inl r) f sz) 28 [(0, .ref v0), (1, .int v1), (2, .int v2)] [.int s0] f sz 0 0 := by
  intro v0 v1 v2 s0 h
  unfold DX7_sizeFor_28 at h
  refine v_istore_n (ls1 := [(3, .int s0), (0, .ref v0), (1, .int v1), (2, .int v2)]) dX7_sizeFor_28 rfl (by decide) rfl ?_
  refine v_iload_n dX7_sizeFor_29 rfl rfl ?_
  refine v_if_eq (tgt := 50) dX7_sizeFor_30 (by decide) (fun c6 => ?_) (fun c6 => ?_)
  · replace h := ip_ c6 h
    exact v_sub (vs_c rfl (vs_c rfl (vs_c rfl vs_n))) (tX7_sizeFor_50 N f k3 hk3 v0 v1 v2 h)
  · replace h := in_ c6 h
    refine v_iload_n dX7_sizeFor_33 rfl rfl ?_
    refine v_iload_n dX7_sizeFor_34 rfl rfl ?_
    refine v_iconst (v := 4) dX7_sizeFor_35 (by decide) ?_
    refine v_idiv dX7_sizeFor_36 (by decide) ?_
    refine v_iadd dX7_sizeFor_37 ?_
    refine v_aload_n dX7_sizeFor_38 rfl rfl ?_
    obtain ⟨x3, hx3, h⟩ := ob_some h
    refine v_getR dX7_sizeFor_39 fl_X7_71 hx3 ?_
    refine v_bipush (v := 6) dX7_sizeFor_42 (by decide) ?_
    obtain ⟨x4, hx4, h⟩ := ob_some h
    refine v_iald dX7_sizeFor_44 hx4 ?_
    refine v_icmp_gt (tgt := 50) dX7_sizeFor_45 (by decide) (fun c5 => ?_) (fun c5 => ?_)
    · replace h := ip_ c5 h
      exact v_sub (vs_c rfl (vs_c rfl (vs_c rfl vs_n))) (tX7_sizeFor_50 N f k3 hk3 v0 v1 v2 h)
    · replace h := in_ c5 h
      refine v_iload_n dX7_sizeFor_48 rfl rfl ?_
      obtain rfl := Option.some.inj h
      exact v_iret dX7_sizeFor_49 rfl rfl

set_option maxRecDepth 20000 in
theorem tX7_sizeFor_3 {l : Launch} {g : GT} {sz : Option Nat} (N : Nat) (f : HF)  {r : Int32} : ∀ (n : Nat), ∀ (v0 : Nat) (v1 : Int32) (v2 : Int32), DX7_sizeFor_3 N f n v0 v1 v2 = some r → V l g (fun _ => True) (RX7, cX7_sizeFor, 4, (Option.some Jvm.ClassFile.FieldType.int), [], "sizeFor") 0 (roI (.inl r) f sz) 3 [(0, .ref v0), (1, .int v1), (2, .int v2)] [] f sz 0 0 := by
  intro n
  induction n with
  | zero => intro v0 v1 v2 h; cases h
  | succ n ih =>
    intro v0 v1 v2 h
    rw [DX7_sizeFor_3] at h
    refine v_iload_n dX7_sizeFor_3 rfl rfl ?_
    refine v_bipush (v := 6) dX7_sizeFor_4 (by decide) ?_
    refine v_icmp_lt (tgt := 57) dX7_sizeFor_6 (by decide) (fun c8 => ?_) (fun c8 => ?_)
    · replace h := ip_ c8 h
      refine v_bipush (v := -6) dX7_sizeFor_57 (by decide) ?_
      obtain rfl := Option.some.inj h
      exact v_iret dX7_sizeFor_59 rfl rfl
    · replace h := in_ c8 h
      refine v_iload_n dX7_sizeFor_9 rfl rfl ?_
      refine v_iload_n dX7_sizeFor_10 rfl rfl ?_
      refine v_iconst (v := 2) dX7_sizeFor_11 (by decide) ?_
      refine v_idiv dX7_sizeFor_12 (by decide) ?_
      refine v_imul dX7_sizeFor_13 ?_
      refine v_aload_n dX7_sizeFor_14 rfl rfl ?_
      obtain ⟨x1, hx1, h⟩ := ob_some h
      refine v_getR dX7_sizeFor_15 fl_X7_71 hx1 ?_
      refine v_iconst (v := 5) dX7_sizeFor_18 (by decide) ?_
      obtain ⟨x2, hx2, h⟩ := ob_some h
      refine v_iald dX7_sizeFor_19 hx2 ?_
      refine v_icmp_gt (tgt := 27) dX7_sizeFor_20 (by decide) (fun c7 => ?_) (fun c7 => ?_)
      · replace h := ip_ c7 h
        refine v_iconst (v := 0) dX7_sizeFor_27 (by decide) ?_
        exact v_sub (vs_c rfl (vs_c rfl (vs_c rfl vs_n))) (tX7_sizeFor_28 N f (DX7_sizeFor_3 N f n) ih v0 v1 v2 (0 : Int32) h)
      · replace h := in_ c7 h
        refine v_iconst (v := 1) dX7_sizeFor_23 (by decide) ?_
        refine v_goto (tgt := 28) dX7_sizeFor_24 (by decide) ?_
        exact v_sub (vs_c rfl (vs_c rfl (vs_c rfl vs_n))) (tX7_sizeFor_28 N f (DX7_sizeFor_3 N f n) ih v0 v1 v2 (1 : Int32) h)

set_option maxRecDepth 20000 in
theorem tX7_sizeFor {l : Launch} {g : GT} {sz : Option Nat} (N : Nat) (p0 : Nat) (p1 : Int32) (f : HF) {r : Int32} (h : DX7_sizeFor N p0 p1 f = some r) : Mt l g yX7_sizeFor cX7_sizeFor 4 (Option.some Jvm.ClassFile.FieldType.int) 0 [.ref p0, .int p1] f sz (roI (.inl r) f sz) := by
  unfold DX7_sizeFor at h
  refine mt_of (by decide) (Nat.le_of_ble_eq_true rfl) (?_ : V l g (fun _ => True) (RX7, cX7_sizeFor, 4, (Option.some Jvm.ClassFile.FieldType.int), [], "sizeFor") 0 (roI (.inl r) f sz) 0 [(0, .ref p0), (1, .int p1)] [] f sz 0 0)
  refine v_bipush (v := 96) dX7_sizeFor_0 (by decide) ?_
  refine v_istore_n (ls1 := [(2, .int (96 : Int32)), (0, .ref p0), (1, .int p1)]) dX7_sizeFor_2 rfl (by decide) rfl ?_
  exact v_sub (vs_c rfl (vs_c rfl (vs_c rfl vs_n))) (tX7_sizeFor_3 N f N p0 p1 (96 : Int32) h)

/-! X7 fittingSize (W) -/
def DX7_fittingSize_29 (N : Nat)  (s0 : Nat) (s1 : Int32) (f : HF) : Option (Int32 × HF) :=
    (DX7_sizeFor N s0 s1 f).bind fun x8 =>
    some (x8, f)

def DX7_fittingSize (N : Nat) (this : Nat) (p0 : Nat) (p1 : Nat) (f : HF) : Option (Int32 × HF) :=
  (ck f this 6).bind fun _ =>
  bW (DX7_show N this p1 f) fun x1 f3 =>
  (DX5_count N x1 f3).bind fun x4 =>
  (gR f3 p1 1 7).bind fun x6 =>
  (aI f3 x6 0 (1 : Int32)).bind fun x7 =>
  if x7 ≤ 0 then
    DX7_fittingSize_29 N p0 x4 f3
  else
    (gR f3 p1 1 7).bind fun x10 =>
    (aI f3 x10 0 (1 : Int32)).bind fun x11 =>
    DX7_fittingSize_29 N p0 x11 f3

set_option maxRecDepth 20000 in
theorem tX7_fittingSize_29 {l : Launch} {g : GT} {sz : Option Nat} (N : Nat)  {r : (Int32 × HF)} : ∀ (s0 : Nat) (s1 : Int32) (f : HF), DX7_fittingSize_29 N s0 s1 f = some r → V l g (fun _ => True) (RX7, cX7_fittingSize, 4, (Option.some Jvm.ClassFile.FieldType.int), [], "fittingSize") 6 (roI (.inl r.1) r.2 sz) 29 [] [.int s1, .ref s0] f sz 0 0 := by
  intro s0 s1 f h
  unfold DX7_fittingSize_29 at h
  obtain ⟨x8, hx9, h⟩ := ob_some h
  have ehx9 := tX7_sizeFor (l := l) (g := g) (sz := sz) N s0 s1 f hx9
  refine v_cSI dX7_fittingSize_29 ml_X7_83 ok_X7_sizeFor ehx9 (by decide) rfl (rest := []) rfl (Nat.le_of_ble_eq_true rfl) ?_
  obtain rfl := Option.some.inj h
  exact v_iret dX7_fittingSize_32 rfl rfl

set_option maxRecDepth 20000 in
theorem kX7_fittingSize (N : Nat) (this : Nat) (p0 : Nat) (p1 : Nat) (f : HF) {r : (Int32 × HF)} (h : DX7_fittingSize N this p0 p1 f = some r) : ck f this 6 = some () := by
  unfold DX7_fittingSize at h
  obtain ⟨_, hck, _⟩ := ob_some h
  exact hck

set_option maxRecDepth 20000 in
theorem tX7_fittingSize {l : Launch} {g : GT} {sz : Option Nat} (N : Nat) (this : Nat) (p0 : Nat) (p1 : Nat) (f : HF) {r : (Int32 × HF)} (h : DX7_fittingSize N this p0 p1 f = some r) : Mt l g yX7_fittingSize cX7_fittingSize 4 (Option.some Jvm.ClassFile.FieldType.int) 6 [.ref this, .ref p0, .ref p1] f sz (roI (.inl r.1) r.2 sz) := by
  unfold DX7_fittingSize at h
  obtain ⟨_, hck, h⟩ := ob_some h
  refine mt_of (by decide) (Nat.le_of_ble_eq_true rfl) (?_ : V l g (fun _ => True) (RX7, cX7_fittingSize, 4, (Option.some Jvm.ClassFile.FieldType.int), [], "fittingSize") 6 (roI (.inl r.1) r.2 sz) 0 [(0, .ref this), (1, .ref p0), (2, .ref p1)] [] f sz 0 0)
  refine v_aload_n dX7_fittingSize_0 rfl rfl ?_
  refine v_aload_n dX7_fittingSize_1 rfl rfl ?_
  obtain ⟨x1, f3, hx2, h⟩ := bW_some h
  have ehx2 := tX7_show (l := l) (g := g) (sz := sz) N this p1 f hx2
  refine v_cVR dX7_fittingSize_2 ml_X7_79 ok_X7_show ehx2 (kX7_show N this p1 f hx2) rfl (by decide) rfl (rest := []) rfl (Nat.le_of_ble_eq_true rfl) ?_
  obtain ⟨x4, hx5, h⟩ := ob_some h
  have ehx5 := tX5_count (l := l) (g := g) (sz := sz) N x1 f3 hx5
  refine v_cVI dX7_fittingSize_5 ml_X7_67 ok_X5_count ehx5 (kX5_count N x1 f3 hx5) rfl (by decide) rfl (rest := []) rfl (Nat.le_of_ble_eq_true rfl) ?_
  refine v_istore_n (ls1 := [(3, .int x4), (0, .ref this), (1, .ref p0), (2, .ref p1)]) dX7_fittingSize_8 rfl (by decide) rfl ?_
  refine v_aload_n dX7_fittingSize_9 rfl rfl ?_
  refine v_aload_n dX7_fittingSize_10 rfl rfl ?_
  obtain ⟨x6, hx6, h⟩ := ob_some h
  refine v_getR dX7_fittingSize_11 fl_X7_71 hx6 ?_
  refine v_iconst (v := 1) dX7_fittingSize_14 (by decide) ?_
  obtain ⟨x7, hx7, h⟩ := ob_some h
  refine v_iald dX7_fittingSize_15 hx7 ?_
  refine v_if_le (tgt := 28) dX7_fittingSize_16 (by decide) (fun c12 => ?_) (fun c12 => ?_)
  · replace h := ip_ c12 h
    refine v_iload_n dX7_fittingSize_28 rfl rfl ?_
    exact v_sub (vs_n) (tX7_fittingSize_29 N p0 x4 f3 h)
  · replace h := in_ c12 h
    refine v_aload_n dX7_fittingSize_19 rfl rfl ?_
    obtain ⟨x10, hx10, h⟩ := ob_some h
    refine v_getR dX7_fittingSize_20 fl_X7_71 hx10 ?_
    refine v_iconst (v := 1) dX7_fittingSize_23 (by decide) ?_
    obtain ⟨x11, hx11, h⟩ := ob_some h
    refine v_iald dX7_fittingSize_24 hx11 ?_
    refine v_goto (tgt := 29) dX7_fittingSize_25 (by decide) ?_
    exact v_sub (vs_n) (tX7_fittingSize_29 N p0 x11 f3 h)

/-! X7 beginning (R) -/
def DX7_beginning (N : Nat) (p0 : Nat) (p1 : Int32) (f : HF) : Option Int32 :=
  (gR f p0 1 7).bind fun x1 =>
  (aI f x1 0 (5 : Int32)).bind fun x2 =>
  (gR f p0 1 7).bind fun x3 =>
  (aI f x3 0 (7 : Int32)).bind fun x4 =>
  if x4 = 1 then
    some ((x2 - p1) / (2 : Int32))
  else
  if x4 = 2 then
    some (x2 - p1)
  else
  some (0 : Int32)

set_option maxRecDepth 20000 in
theorem tX7_beginning {l : Launch} {g : GT} {sz : Option Nat} (N : Nat) (p0 : Nat) (p1 : Int32) (f : HF) {r : Int32} (h : DX7_beginning N p0 p1 f = some r) : Mt l g yX7_beginning cX7_beginning 3 (Option.some Jvm.ClassFile.FieldType.int) 0 [.ref p0, .int p1] f sz (roI (.inl r) f sz) := by
  unfold DX7_beginning at h
  refine mt_of (by decide) (Nat.le_of_ble_eq_true rfl) (?_ : V l g (fun _ => True) (RX7, cX7_beginning, 3, (Option.some Jvm.ClassFile.FieldType.int), [], "beginning") 0 (roI (.inl r) f sz) 0 [(0, .ref p0), (1, .int p1)] [] f sz 0 0)
  refine v_aload_n dX7_beginning_0 rfl rfl ?_
  obtain ⟨x1, hx1, h⟩ := ob_some h
  refine v_getR dX7_beginning_1 fl_X7_71 hx1 ?_
  refine v_iconst (v := 5) dX7_beginning_4 (by decide) ?_
  obtain ⟨x2, hx2, h⟩ := ob_some h
  refine v_iald dX7_beginning_5 hx2 ?_
  refine v_iload_n dX7_beginning_6 rfl rfl ?_
  refine v_isub dX7_beginning_7 ?_
  refine v_istore_n (ls1 := [(2, .int (x2 - p1)), (0, .ref p0), (1, .int p1)]) dX7_beginning_8 rfl (by decide) rfl ?_
  refine v_aload_n dX7_beginning_9 rfl rfl ?_
  obtain ⟨x3, hx3, h⟩ := ob_some h
  refine v_getR dX7_beginning_10 fl_X7_71 hx3 ?_
  refine v_bipush (v := 7) dX7_beginning_13 (by decide) ?_
  obtain ⟨x4, hx4, h⟩ := ob_some h
  refine v_iald dX7_beginning_15 hx4 ?_
  by_cases c5 : x4 = 1
  · replace h := ip_ c5 h
    refine v_lookup (tgt := 44) (off := 28) dX7_beginning_16 (by decide) (by rw [c5] <;> rfl) (by decide) ?_
    refine v_iload_n dX7_beginning_44 rfl rfl ?_
    refine v_iconst (v := 2) dX7_beginning_45 (by decide) ?_
    refine v_idiv dX7_beginning_46 (by decide) ?_
    obtain rfl := Option.some.inj h
    exact v_iret dX7_beginning_47 rfl rfl
  replace h := in_ c5 h
  by_cases c6 : x4 = 2
  · replace h := ip_ c6 h
    refine v_lookup (tgt := 48) (off := 32) dX7_beginning_16 (by decide) (by rw [c6] <;> rfl) (by decide) ?_
    refine v_iload_n dX7_beginning_48 rfl rfl ?_
    obtain rfl := Option.some.inj h
    exact v_iret dX7_beginning_49 rfl rfl
  replace h := in_ c6 h
  refine v_lookup (tgt := 50) (off := 34) dX7_beginning_16 (by decide) ((lv_osw c5 (by decide)).trans ((lv_osw c6 (by decide)).trans (rfl))) (by decide) ?_
  refine v_iconst (v := 0) dX7_beginning_50 (by decide) ?_
  obtain rfl := Option.some.inj h
  exact v_iret dX7_beginning_51 rfl rfl

/-! X7 cellX (R) -/
def DX7_cellX (N : Nat) (p0 : Int32) (p1 : Int32) (p2 : Int32) (p3 : Int32) (f : HF) : Option Int32 :=
  if 0 < p2 then
    if ¬ p2 = 0 then
    if ¬ p2 = 0 then
    some (((p0 * p1) / p2) + (((p1 / p2) - (p3 / (2 : Int32))) / (2 : Int32)))
    else none
    else none
  else
    some (0 : Int32)

set_option maxRecDepth 20000 in
theorem tX7_cellX {l : Launch} {g : GT} {sz : Option Nat} (N : Nat) (p0 : Int32) (p1 : Int32) (p2 : Int32) (p3 : Int32) (f : HF) {r : Int32} (h : DX7_cellX N p0 p1 p2 p3 f = some r) : Mt l g yX7_cellX cX7_cellX 4 (Option.some Jvm.ClassFile.FieldType.int) 0 [.int p0, .int p1, .int p2, .int p3] f sz (roI (.inl r) f sz) := by
  unfold DX7_cellX at h
  refine mt_of (by decide) (Nat.le_of_ble_eq_true rfl) (?_ : V l g (fun _ => True) (RX7, cX7_cellX, 4, (Option.some Jvm.ClassFile.FieldType.int), [], "cellX") 0 (roI (.inl r) f sz) 0 [(0, .int p0), (1, .int p1), (2, .int p2), (3, .int p3)] [] f sz 0 0)
  refine v_iload_n dX7_cellX_0 rfl rfl ?_
  refine v_if_gt (tgt := 6) dX7_cellX_1 (by decide) (fun c1 => ?_) (fun c1 => ?_)
  · replace h := ip_ c1 h
    refine v_iload_n dX7_cellX_6 rfl rfl ?_
    refine v_iload_n dX7_cellX_7 rfl rfl ?_
    refine v_imul dX7_cellX_8 ?_
    refine v_iload_n dX7_cellX_9 rfl rfl ?_
    obtain ⟨hz, h⟩ := if_some h
    refine v_idiv dX7_cellX_10 hz ?_
    refine v_iload_n dX7_cellX_11 rfl rfl ?_
    refine v_iload_n dX7_cellX_12 rfl rfl ?_
    obtain ⟨hz, h⟩ := if_some h
    refine v_idiv dX7_cellX_13 hz ?_
    refine v_iload_n dX7_cellX_14 rfl rfl ?_
    refine v_iconst (v := 2) dX7_cellX_15 (by decide) ?_
    refine v_idiv dX7_cellX_16 (by decide) ?_
    refine v_isub dX7_cellX_17 ?_
    refine v_iconst (v := 2) dX7_cellX_18 (by decide) ?_
    refine v_idiv dX7_cellX_19 (by decide) ?_
    refine v_iadd dX7_cellX_20 ?_
    obtain rfl := Option.some.inj h
    exact v_iret dX7_cellX_21 rfl rfl
  · replace h := in_ c1 h
    refine v_iconst (v := 0) dX7_cellX_4 (by decide) ?_
    obtain rfl := Option.some.inj h
    exact v_iret dX7_cellX_5 rfl rfl

/-! X7 addMarks (W) -/
def DX7_addMarks_121 (N : Nat) (k81 : Nat → Nat → Nat → Int32 → Int32 → Int32 → Int32 → Int32 → Int32 → HF → Option (Unit × HF)) (v0 : Nat) (v1 : Nat) (v3 : Nat) (v4 : Int32) (v5 : Int32) (v6 : Int32) (v7 : Int32) (v8 : Int32) (v9 : Int32) (s0 : Int32) (f : HF) : Option (Unit × HF) :=
    (gR f v0 6 0).bind fun x18 =>
    (DX5_get N x18 v9 f).bind fun x19 =>
    (gI f v1 1 0).bind fun x21 =>
    bW (DX3_add N v3 x19 s0 v7 v6 x21 f) fun x22 f24 =>
    k81 v0 v1 v3 v4 v5 v6 v7 v8 (v9 + 1) f24

def DX7_addMarks_81 (N : Nat)  (n : Nat) (v0 : Nat) (v1 : Nat) (v3 : Nat) (v4 : Int32) (v5 : Int32) (v6 : Int32) (v7 : Int32) (v8 : Int32) (v9 : Int32) (f : HF) : Option (Unit × HF) :=
  match n with
  | 0 => none
  | n + 1 =>
    if v4 ≤ v9 then
      some ((), f)
    else
      if v5 ≤ 0 then
        DX7_addMarks_121 N (DX7_addMarks_81 N n) v0 v1 v3 v4 v5 v6 v7 v8 v9 (v8 + (v9 * (v6 / (2 : Int32)))) f
      else
        (gR f v1 1 7).bind fun x25 =>
        (aI f x25 0 (5 : Int32)).bind fun x26 =>
        (DX7_cellX N v9 x26 v5 v6 f).bind fun x27 =>
        DX7_addMarks_121 N (DX7_addMarks_81 N n) v0 v1 v3 v4 v5 v6 v7 v8 v9 x27 f

def DX7_addMarks_31 (N : Nat)  (v0 : Nat) (v1 : Nat) (v3 : Nat) (v4 : Int32) (v5 : Int32) (s0 : Nat) (s1 : Int32) (f : HF) : Option (Unit × HF) :=
    (DX7_sizeFor N s0 s1 f).bind fun x8 =>
    (gR f v1 1 7).bind fun x10 =>
    (aI f x10 0 (6 : Int32)).bind fun x11 =>
    (DX7_beginning N v1 (v4 * ((abI x8) / (2 : Int32))) f).bind fun x12 =>
    (gI f v1 1 0).bind fun x14 =>
    bW (DX3_add N v3 (0 : Int32) (0 : Int32) (0 : Int32) (0 : Int32) x14 f) fun x15 f17 =>
    DX7_addMarks_81 N N v0 v1 v3 v4 v5 (abI x8) ((x11 - (abI x8)) / (2 : Int32)) x12 (0 : Int32) f17

def DX7_addMarks (N : Nat) (this : Nat) (p0 : Nat) (p1 : Nat) (p2 : Nat) (f : HF) : Option (Unit × HF) :=
  (ck f this 6).bind fun _ =>
  bW (DX7_show N this p1 f) fun x1 f3 =>
  (DX5_count N x1 f3).bind fun x4 =>
  (gR f3 p1 1 7).bind fun x6 =>
  (aI f3 x6 0 (1 : Int32)).bind fun x7 =>
  if x7 ≤ 0 then
    DX7_addMarks_31 N this p0 p2 x4 x7 p0 x4 f3
  else
    DX7_addMarks_31 N this p0 p2 x4 x7 p0 x7 f3

set_option maxRecDepth 20000 in
theorem tX7_addMarks_121 {l : Launch} {g : GT} {sz : Option Nat} (N : Nat) (k81 : Nat → Nat → Nat → Int32 → Int32 → Int32 → Int32 → Int32 → Int32 → HF → Option (Unit × HF)) {r : (Unit × HF)} (hk81 : ∀ (w0 : Nat) (w1 : Nat) (w3 : Nat) (w4 : Int32) (w5 : Int32) (w6 : Int32) (w7 : Int32) (w8 : Int32) (w9 : Int32) (f : HF), k81 w0 w1 w3 w4 w5 w6 w7 w8 w9 f = some r → V l g (fun _ => True) (RX7, cX7_addMarks, 11, (Option.none : Option Jvm.ClassFile.FieldType), [], "addMarks") 6 (roU (.inl r.1) r.2 sz) 81 [(0, .ref w0), (1, .ref w1), (3, .ref w3), (4, .int w4), (5, .int w5), (6, .int w6), (7, .int w7), (8, .int w8), (9, .int w9)] [] f sz 0 0) : ∀ (v0 : Nat) (v1 : Nat) (v3 : Nat) (v4 : Int32) (v5 : Int32) (v6 : Int32) (v7 : Int32) (v8 : Int32) (v9 : Int32) (s0 : Int32) (f : HF), DX7_addMarks_121 N k81 v0 v1 v3 v4 v5 v6 v7 v8 v9 s0 f = some r → V l g (fun _ => True) (RX7, cX7_addMarks, 11, (Option.none : Option Jvm.ClassFile.FieldType), [], "addMarks") 6 (roU (.inl r.1) r.2 sz) 121 [(0, .ref v0), (1, .ref v1), (3, .ref v3), (4, .int v4), (5, .int v5), (6, .int v6), (7, .int v7), (8, .int v8), (9, .int v9)] [.int s0] f sz 0 0 := by
  intro v0 v1 v3 v4 v5 v6 v7 v8 v9 s0 f h
  unfold DX7_addMarks_121 at h
  refine v_istore (ls1 := [(10, .int s0), (0, .ref v0), (1, .ref v1), (3, .ref v3), (4, .int v4), (5, .int v5), (6, .int v6), (7, .int v7), (8, .int v8), (9, .int v9)]) dX7_addMarks_121 (by decide) rfl ?_
  refine v_aload_n dX7_addMarks_123 rfl rfl ?_
  refine v_aload_n dX7_addMarks_124 rfl rfl ?_
  obtain ⟨x18, hx18, h⟩ := ob_some h
  refine v_getR dX7_addMarks_125 fl_X7_14 hx18 ?_
  refine v_iload dX7_addMarks_128 rfl ?_
  obtain ⟨x19, hx20, h⟩ := ob_some h
  have ehx20 := tX5_get (l := l) (g := g) (sz := sz) N x18 v9 f hx20
  refine v_cVI dX7_addMarks_130 ml_X7_51 ok_X5_get ehx20 (kX5_get N x18 v9 f hx20) rfl (by decide) rfl (rest := [.ref v3]) rfl (Nat.le_of_ble_eq_true rfl) ?_
  refine v_iload dX7_addMarks_133 rfl ?_
  refine v_iload dX7_addMarks_135 rfl ?_
  refine v_iload dX7_addMarks_137 rfl ?_
  refine v_aload_n dX7_addMarks_139 rfl rfl ?_
  obtain ⟨x21, hx21, h⟩ := ob_some h
  refine v_getI dX7_addMarks_140 fl_X7_95 hx21 ?_
  obtain ⟨x22, f24, hx23, h⟩ := bW_some h
  have ehx23 := tX3_add (l := l) (g := g) (sz := sz) N v3 x19 s0 v7 v6 x21 f hx23
  refine v_cVU dX7_addMarks_143 ml_X7_98 ok_X3_add ehx23 (kX3_add N v3 x19 s0 v7 v6 x21 f hx23) rfl (by decide) rfl (rest := []) rfl (Nat.le_of_ble_eq_true rfl) ?_
  refine v_iinc (v := (v9 + 1)) (ls1 := [(9, .int (v9 + 1)), (10, .int s0), (0, .ref v0), (1, .ref v1), (3, .ref v3), (4, .int v4), (5, .int v5), (6, .int v6), (7, .int v7), (8, .int v8)]) dX7_addMarks_146 rfl rfl (by decide) rfl ?_
  refine v_goto (tgt := 81) dX7_addMarks_149 (by decide) ?_
  exact v_sub (vs_c rfl (vs_c rfl (vs_c rfl (vs_c rfl (vs_c rfl (vs_c rfl (vs_c rfl (vs_c rfl (vs_c rfl vs_n))))))))) (hk81 v0 v1 v3 v4 v5 v6 v7 v8 (v9 + 1) f24 h)

set_option maxRecDepth 20000 in
theorem tX7_addMarks_81 {l : Launch} {g : GT} {sz : Option Nat} (N : Nat)  {r : (Unit × HF)} : ∀ (n : Nat), ∀ (v0 : Nat) (v1 : Nat) (v3 : Nat) (v4 : Int32) (v5 : Int32) (v6 : Int32) (v7 : Int32) (v8 : Int32) (v9 : Int32) (f : HF), DX7_addMarks_81 N n v0 v1 v3 v4 v5 v6 v7 v8 v9 f = some r → V l g (fun _ => True) (RX7, cX7_addMarks, 11, (Option.none : Option Jvm.ClassFile.FieldType), [], "addMarks") 6 (roU (.inl r.1) r.2 sz) 81 [(0, .ref v0), (1, .ref v1), (3, .ref v3), (4, .int v4), (5, .int v5), (6, .int v6), (7, .int v7), (8, .int v8), (9, .int v9)] [] f sz 0 0 := by
  intro n
  induction n with
  | zero => intro v0 v1 v3 v4 v5 v6 v7 v8 v9 f h; cases h
  | succ n ih =>
    intro v0 v1 v3 v4 v5 v6 v7 v8 v9 f h
    rw [DX7_addMarks_81] at h
    refine v_iload dX7_addMarks_81 rfl ?_
    refine v_iload dX7_addMarks_83 rfl ?_
    refine v_icmp_ge (tgt := 152) dX7_addMarks_85 (by decide) (fun c30 => ?_) (fun c30 => ?_)
    · replace h := ip_ c30 h
      obtain rfl := Option.some.inj h
      exact v_vret dX7_addMarks_152 rfl rfl
    · replace h := in_ c30 h
      refine v_iload dX7_addMarks_88 rfl ?_
      refine v_if_le (tgt := 111) dX7_addMarks_90 (by decide) (fun c29 => ?_) (fun c29 => ?_)
      · replace h := ip_ c29 h
        refine v_iload dX7_addMarks_111 rfl ?_
        refine v_iload dX7_addMarks_113 rfl ?_
        refine v_iload dX7_addMarks_115 rfl ?_
        refine v_iconst (v := 2) dX7_addMarks_117 (by decide) ?_
        refine v_idiv dX7_addMarks_118 (by decide) ?_
        refine v_imul dX7_addMarks_119 ?_
        refine v_iadd dX7_addMarks_120 ?_
        exact v_sub (vs_c rfl (vs_c rfl (vs_c rfl (vs_c rfl (vs_c rfl (vs_c rfl (vs_c rfl (vs_c rfl (vs_c rfl vs_n))))))))) (tX7_addMarks_121 N (DX7_addMarks_81 N n) ih v0 v1 v3 v4 v5 v6 v7 v8 v9 (v8 + (v9 * (v6 / (2 : Int32)))) f h)
      · replace h := in_ c29 h
        refine v_iload dX7_addMarks_93 rfl ?_
        refine v_aload_n dX7_addMarks_95 rfl rfl ?_
        obtain ⟨x25, hx25, h⟩ := ob_some h
        refine v_getR dX7_addMarks_96 fl_X7_71 hx25 ?_
        refine v_iconst (v := 5) dX7_addMarks_99 (by decide) ?_
        obtain ⟨x26, hx26, h⟩ := ob_some h
        refine v_iald dX7_addMarks_100 hx26 ?_
        refine v_iload dX7_addMarks_101 rfl ?_
        refine v_iload dX7_addMarks_103 rfl ?_
        obtain ⟨x27, hx28, h⟩ := ob_some h
        have ehx28 := tX7_cellX (l := l) (g := g) (sz := sz) N v9 x26 v5 v6 f hx28
        refine v_cSI dX7_addMarks_105 ml_X7_103 ok_X7_cellX ehx28 (by decide) rfl (rest := []) rfl (Nat.le_of_ble_eq_true rfl) ?_
        refine v_goto (tgt := 121) dX7_addMarks_108 (by decide) ?_
        exact v_sub (vs_c rfl (vs_c rfl (vs_c rfl (vs_c rfl (vs_c rfl (vs_c rfl (vs_c rfl (vs_c rfl (vs_c rfl vs_n))))))))) (tX7_addMarks_121 N (DX7_addMarks_81 N n) ih v0 v1 v3 v4 v5 v6 v7 v8 v9 x27 f h)

set_option maxRecDepth 20000 in
theorem tX7_addMarks_31 {l : Launch} {g : GT} {sz : Option Nat} (N : Nat)  {r : (Unit × HF)} : ∀ (v0 : Nat) (v1 : Nat) (v3 : Nat) (v4 : Int32) (v5 : Int32) (s0 : Nat) (s1 : Int32) (f : HF), DX7_addMarks_31 N v0 v1 v3 v4 v5 s0 s1 f = some r → V l g (fun _ => True) (RX7, cX7_addMarks, 11, (Option.none : Option Jvm.ClassFile.FieldType), [], "addMarks") 6 (roU (.inl r.1) r.2 sz) 31 [(0, .ref v0), (1, .ref v1), (3, .ref v3), (4, .int v4), (5, .int v5)] [.int s1, .ref s0] f sz 0 0 := by
  intro v0 v1 v3 v4 v5 s0 s1 f h
  unfold DX7_addMarks_31 at h
  obtain ⟨x8, hx9, h⟩ := ob_some h
  have ehx9 := tX7_sizeFor (l := l) (g := g) (sz := sz) N s0 s1 f hx9
  refine v_cSI dX7_addMarks_31 ml_X7_83 ok_X7_sizeFor ehx9 (by decide) rfl (rest := []) rfl (Nat.le_of_ble_eq_true rfl) ?_
  refine v_mabsI dX7_addMarks_34 ml_X7_87 ok_J9_abs_0f7a4 (by decide) (Nat.le_of_ble_eq_true rfl) ?_
  refine v_istore (ls1 := [(6, .int (abI x8)), (0, .ref v0), (1, .ref v1), (3, .ref v3), (4, .int v4), (5, .int v5)]) dX7_addMarks_37 (by decide) rfl ?_
  refine v_aload_n dX7_addMarks_39 rfl rfl ?_
  obtain ⟨x10, hx10, h⟩ := ob_some h
  refine v_getR dX7_addMarks_40 fl_X7_71 hx10 ?_
  refine v_bipush (v := 6) dX7_addMarks_43 (by decide) ?_
  obtain ⟨x11, hx11, h⟩ := ob_some h
  refine v_iald dX7_addMarks_45 hx11 ?_
  refine v_iload dX7_addMarks_46 rfl ?_
  refine v_isub dX7_addMarks_48 ?_
  refine v_iconst (v := 2) dX7_addMarks_49 (by decide) ?_
  refine v_idiv dX7_addMarks_50 (by decide) ?_
  refine v_istore (ls1 := [(7, .int ((x11 - (abI x8)) / (2 : Int32))), (6, .int (abI x8)), (0, .ref v0), (1, .ref v1), (3, .ref v3), (4, .int v4), (5, .int v5)]) dX7_addMarks_51 (by decide) rfl ?_
  refine v_aload_n dX7_addMarks_53 rfl rfl ?_
  refine v_iload dX7_addMarks_54 rfl ?_
  refine v_iload dX7_addMarks_56 rfl ?_
  refine v_iconst (v := 2) dX7_addMarks_58 (by decide) ?_
  refine v_idiv dX7_addMarks_59 (by decide) ?_
  refine v_imul dX7_addMarks_60 ?_
  obtain ⟨x12, hx13, h⟩ := ob_some h
  have ehx13 := tX7_beginning (l := l) (g := g) (sz := sz) N v1 (v4 * ((abI x8) / (2 : Int32))) f hx13
  refine v_cSI dX7_addMarks_61 ml_X7_92 ok_X7_beginning ehx13 (by decide) rfl (rest := []) rfl (Nat.le_of_ble_eq_true rfl) ?_
  refine v_istore (ls1 := [(8, .int x12), (7, .int ((x11 - (abI x8)) / (2 : Int32))), (6, .int (abI x8)), (0, .ref v0), (1, .ref v1), (3, .ref v3), (4, .int v4), (5, .int v5)]) dX7_addMarks_64 (by decide) rfl ?_
  refine v_aload_n dX7_addMarks_66 rfl rfl ?_
  refine v_iconst (v := 0) dX7_addMarks_67 (by decide) ?_
  refine v_iconst (v := 0) dX7_addMarks_68 (by decide) ?_
  refine v_iconst (v := 0) dX7_addMarks_69 (by decide) ?_
  refine v_iconst (v := 0) dX7_addMarks_70 (by decide) ?_
  refine v_aload_n dX7_addMarks_71 rfl rfl ?_
  obtain ⟨x14, hx14, h⟩ := ob_some h
  refine v_getI dX7_addMarks_72 fl_X7_95 hx14 ?_
  obtain ⟨x15, f17, hx16, h⟩ := bW_some h
  have ehx16 := tX3_add (l := l) (g := g) (sz := sz) N v3 (0 : Int32) (0 : Int32) (0 : Int32) (0 : Int32) x14 f hx16
  refine v_cVU dX7_addMarks_75 ml_X7_98 ok_X3_add ehx16 (kX3_add N v3 (0 : Int32) (0 : Int32) (0 : Int32) (0 : Int32) x14 f hx16) rfl (by decide) rfl (rest := []) rfl (Nat.le_of_ble_eq_true rfl) ?_
  refine v_iconst (v := 0) dX7_addMarks_78 (by decide) ?_
  refine v_istore (ls1 := [(9, .int (0 : Int32)), (8, .int x12), (7, .int ((x11 - (abI x8)) / (2 : Int32))), (6, .int (abI x8)), (0, .ref v0), (1, .ref v1), (3, .ref v3), (4, .int v4), (5, .int v5)]) dX7_addMarks_79 (by decide) rfl ?_
  exact v_sub (vs_c rfl (vs_c rfl (vs_c rfl (vs_c rfl (vs_c rfl (vs_c rfl (vs_c rfl (vs_c rfl (vs_c rfl vs_n))))))))) (tX7_addMarks_81 N N v0 v1 v3 v4 v5 (abI x8) ((x11 - (abI x8)) / (2 : Int32)) x12 (0 : Int32) f17 h)

set_option maxRecDepth 20000 in
theorem kX7_addMarks (N : Nat) (this : Nat) (p0 : Nat) (p1 : Nat) (p2 : Nat) (f : HF) {r : (Unit × HF)} (h : DX7_addMarks N this p0 p1 p2 f = some r) : ck f this 6 = some () := by
  unfold DX7_addMarks at h
  obtain ⟨_, hck, _⟩ := ob_some h
  exact hck

set_option maxRecDepth 20000 in
theorem tX7_addMarks {l : Launch} {g : GT} {sz : Option Nat} (N : Nat) (this : Nat) (p0 : Nat) (p1 : Nat) (p2 : Nat) (f : HF) {r : (Unit × HF)} (h : DX7_addMarks N this p0 p1 p2 f = some r) : Mt l g yX7_addMarks cX7_addMarks 11 (Option.none : Option Jvm.ClassFile.FieldType) 6 [.ref this, .ref p0, .ref p1, .ref p2] f sz (roU (.inl r.1) r.2 sz) := by
  unfold DX7_addMarks at h
  obtain ⟨_, hck, h⟩ := ob_some h
  refine mt_of (by decide) (Nat.le_of_ble_eq_true rfl) (?_ : V l g (fun _ => True) (RX7, cX7_addMarks, 11, (Option.none : Option Jvm.ClassFile.FieldType), [], "addMarks") 6 (roU (.inl r.1) r.2 sz) 0 [(0, .ref this), (1, .ref p0), (2, .ref p1), (3, .ref p2)] [] f sz 0 0)
  refine v_aload_n dX7_addMarks_0 rfl rfl ?_
  refine v_aload_n dX7_addMarks_1 rfl rfl ?_
  obtain ⟨x1, f3, hx2, h⟩ := bW_some h
  have ehx2 := tX7_show (l := l) (g := g) (sz := sz) N this p1 f hx2
  refine v_cVR dX7_addMarks_2 ml_X7_79 ok_X7_show ehx2 (kX7_show N this p1 f hx2) rfl (by decide) rfl (rest := []) rfl (Nat.le_of_ble_eq_true rfl) ?_
  obtain ⟨x4, hx5, h⟩ := ob_some h
  have ehx5 := tX5_count (l := l) (g := g) (sz := sz) N x1 f3 hx5
  refine v_cVI dX7_addMarks_5 ml_X7_67 ok_X5_count ehx5 (kX5_count N x1 f3 hx5) rfl (by decide) rfl (rest := []) rfl (Nat.le_of_ble_eq_true rfl) ?_
  refine v_istore (ls1 := [(4, .int x4), (0, .ref this), (1, .ref p0), (2, .ref p1), (3, .ref p2)]) dX7_addMarks_8 (by decide) rfl ?_
  refine v_aload_n dX7_addMarks_10 rfl rfl ?_
  obtain ⟨x6, hx6, h⟩ := ob_some h
  refine v_getR dX7_addMarks_11 fl_X7_71 hx6 ?_
  refine v_iconst (v := 1) dX7_addMarks_14 (by decide) ?_
  obtain ⟨x7, hx7, h⟩ := ob_some h
  refine v_iald dX7_addMarks_15 hx7 ?_
  refine v_istore (ls1 := [(5, .int x7), (4, .int x4), (0, .ref this), (1, .ref p0), (2, .ref p1), (3, .ref p2)]) dX7_addMarks_16 (by decide) rfl ?_
  refine v_aload_n dX7_addMarks_18 rfl rfl ?_
  refine v_iload dX7_addMarks_19 rfl ?_
  refine v_if_le (tgt := 29) dX7_addMarks_21 (by decide) (fun c31 => ?_) (fun c31 => ?_)
  · replace h := ip_ c31 h
    refine v_iload dX7_addMarks_29 rfl ?_
    exact v_sub (vs_c rfl (vs_c rfl (vs_c rfl (vs_c rfl (vs_c rfl vs_n))))) (tX7_addMarks_31 N this p0 p2 x4 x7 p0 x4 f3 h)
  · replace h := in_ c31 h
    refine v_iload dX7_addMarks_24 rfl ?_
    refine v_goto (tgt := 31) dX7_addMarks_26 (by decide) ?_
    exact v_sub (vs_c rfl (vs_c rfl (vs_c rfl (vs_c rfl (vs_c rfl vs_n))))) (tX7_addMarks_31 N this p0 p2 x4 x7 p0 x7 f3 h)

