/-! X1 resultOf (RT) -/
def DX1_resultOf (N : Nat) (this : Nat) (p0 : Nat) (f : HF) : Option (Int64 ⊕ String) :=
  (ck f this 0).bind fun _ =>
  (gI f p0 1 16).bind fun x1 =>
  if x1 = 0 then
    (gI f p0 1 13).bind fun x2 =>
    if x2 = (7 : Int32) then
      (gI f p0 1 14).bind fun x27 =>
      some (.inl (x27.toInt64))
    else
      (gI f p0 1 13).bind fun x3 =>
      if x3 = (6 : Int32) then
        (gI f p0 1 14).bind fun x21 =>
        bRT (DX1_numbersIn N this x21 f) fun x22 =>
        bRT (DX1_sumOf N this x22 f) fun x24 =>
        some (.inl x24)
      else
        (gR f this 0 0).bind fun x4 =>
        (gI f p0 1 14).bind fun x5 =>
        bRT (DX6_masterOf N x4 x5 f) fun x6 =>
        (DX2_amount N x6 f).bind fun x8 =>
        (gR f this 0 0).bind fun x10 =>
        (gI f p0 1 15).bind fun x11 =>
        bRT (DX6_masterOf N x10 x11 f) fun x12 =>
        (DX2_amount N x12 f).bind fun x14 =>
        if x8 = (-9223372036854775808 : Int64) then
          some (.inl (-9223372036854775808 : Int64))
        else
          if x14 = (-9223372036854775808 : Int64) then
            some (.inl (-9223372036854775808 : Int64))
          else
            (gI f p0 1 13).bind fun x16 =>
            (DX0_combine N x16 x8 x14 f).bind fun x17 =>
            some (.inl x17)
  else
    some (.inl (-9223372036854775808 : Int64))

set_option maxRecDepth 20000 in
theorem kX1_resultOf (N : Nat) (this : Nat) (p0 : Nat) (f : HF) {r : (Int64 ⊕ String)} (h : DX1_resultOf N this p0 f = some r) : ck f this 0 = some () := by
  unfold DX1_resultOf at h
  obtain ⟨_, hck, _⟩ := ob_some h
  exact hck

set_option maxRecDepth 20000 in
theorem tX1_resultOf {l : Launch} {g : GT} {sz : Option Nat} (N : Nat) (this : Nat) (p0 : Nat) (f : HF) {r : (Int64 ⊕ String)} (h : DX1_resultOf N this p0 f = some r) : Mt l g yX1_resultOf cX1_resultOf 6 (Option.some Jvm.ClassFile.FieldType.long) 11 [.ref this, .ref p0] f sz (roL r f sz) := by
  unfold DX1_resultOf at h
  obtain ⟨_, hck, h⟩ := ob_some h
  refine mt_of (by decide) (Nat.le_of_ble_eq_true rfl) (?_ : V l g (fun _ => True) (RX1, cX1_resultOf, 6, (Option.some Jvm.ClassFile.FieldType.long), [], "resultOf") 11 (roL r f sz) 0 [(0, .ref this), (1, .ref p0)] [] f sz 0 0)
  refine v_aload_n dX1_resultOf_0 rfl rfl ?_
  obtain ⟨x1, hx1, h⟩ := ob_some h
  refine v_getI dX1_resultOf_1 fl_X1_141 hx1 ?_
  refine v_if_eq (tgt := 11) dX1_resultOf_4 (by decide) (fun c29 => ?_) (fun c29 => ?_)
  · replace h := ip_ c29 h
    refine v_aload_n dX1_resultOf_11 rfl rfl ?_
    obtain ⟨x2, hx2, h⟩ := ob_some h
    refine v_getI dX1_resultOf_12 fl_X1_85 hx2 ?_
    refine v_bipush (v := 7) dX1_resultOf_15 (by decide) ?_
    refine v_icmp_ne (tgt := 26) dX1_resultOf_17 (by decide) (fun c28 => ?_) (fun c28 => ?_)
    · replace h := in_ c28 h
      refine v_aload_n dX1_resultOf_26 rfl rfl ?_
      obtain ⟨x3, hx3, h⟩ := ob_some h
      refine v_getI dX1_resultOf_27 fl_X1_85 hx3 ?_
      refine v_bipush (v := 6) dX1_resultOf_30 (by decide) ?_
      refine v_icmp_ne (tgt := 48) dX1_resultOf_32 (by decide) (fun c26 => ?_) (fun c26 => ?_)
      · replace h := in_ c26 h
        refine v_aload_n dX1_resultOf_48 rfl rfl ?_
        obtain ⟨x4, hx4, h⟩ := ob_some h
        refine v_getR dX1_resultOf_49 fl_X1_30 hx4 ?_
        refine v_aload_n dX1_resultOf_52 rfl rfl ?_
        obtain ⟨x5, hx5, h⟩ := ob_some h
        refine v_getI dX1_resultOf_53 fl_X1_88 hx5 ?_
        rcases bRT_some h with ⟨x6, hx7, h⟩ | ⟨e9, hx7, h⟩
        rotate_left
        · cases h
          have ehx7 := tX6_masterOf (l := l) (g := g) (sz := sz) N x4 x5 f hx7
          exact v_cVx dX1_resultOf_56 ml_X1_149 ok_X6_masterOf ehx7 (kX6_masterOf N x4 x5 f hx7) rfl (by decide) rfl (rest := []) rfl (Nat.le_of_ble_eq_true rfl) rfl rfl
        have ehx7 := tX6_masterOf (l := l) (g := g) (sz := sz) N x4 x5 f hx7
        refine v_cVR dX1_resultOf_56 ml_X1_149 ok_X6_masterOf ehx7 (kX6_masterOf N x4 x5 f hx7) rfl (by decide) rfl (rest := []) rfl (Nat.le_of_ble_eq_true rfl) ?_
        obtain ⟨x8, hx9, h⟩ := ob_some h
        have ehx9 := tX2_amount (l := l) (g := g) (sz := sz) N x6 f hx9
        refine v_cVL dX1_resultOf_59 ml_X1_152 ok_X2_amount ehx9 (kX2_amount N x6 f hx9) rfl (by decide) rfl (rest := []) rfl (Nat.le_of_ble_eq_true rfl) ?_
        refine v_lstore_n (ls1 := [(2, .long x8), (0, .ref this), (1, .ref p0)]) dX1_resultOf_62 rfl (by decide) rfl ?_
        refine v_aload_n dX1_resultOf_63 rfl rfl ?_
        obtain ⟨x10, hx10, h⟩ := ob_some h
        refine v_getR dX1_resultOf_64 fl_X1_30 hx10 ?_
        refine v_aload_n dX1_resultOf_67 rfl rfl ?_
        obtain ⟨x11, hx11, h⟩ := ob_some h
        refine v_getI dX1_resultOf_68 fl_X1_94 hx11 ?_
        rcases bRT_some h with ⟨x12, hx13, h⟩ | ⟨e9, hx13, h⟩
        rotate_left
        · cases h
          have ehx13 := tX6_masterOf (l := l) (g := g) (sz := sz) N x10 x11 f hx13
          exact v_cVx dX1_resultOf_71 ml_X1_149 ok_X6_masterOf ehx13 (kX6_masterOf N x10 x11 f hx13) rfl (by decide) rfl (rest := []) rfl (Nat.le_of_ble_eq_true rfl) rfl rfl
        have ehx13 := tX6_masterOf (l := l) (g := g) (sz := sz) N x10 x11 f hx13
        refine v_cVR dX1_resultOf_71 ml_X1_149 ok_X6_masterOf ehx13 (kX6_masterOf N x10 x11 f hx13) rfl (by decide) rfl (rest := []) rfl (Nat.le_of_ble_eq_true rfl) ?_
        obtain ⟨x14, hx15, h⟩ := ob_some h
        have ehx15 := tX2_amount (l := l) (g := g) (sz := sz) N x12 f hx15
        refine v_cVL dX1_resultOf_74 ml_X1_152 ok_X2_amount ehx15 (kX2_amount N x12 f hx15) rfl (by decide) rfl (rest := []) rfl (Nat.le_of_ble_eq_true rfl) ?_
        refine v_lstore (ls1 := [(4, .long x14), (2, .long x8), (0, .ref this), (1, .ref p0)]) dX1_resultOf_77 (by decide) rfl ?_
        refine v_lload_n dX1_resultOf_79 rfl rfl ?_
        refine v_ldc2 dX1_resultOf_80 kc_X1_114 ?_
        refine v_lcmp_eq (tgt := 96) dX1_resultOf_83 dX1_resultOf_84 (by decide) (fun c20 => ?_) (fun c20 => ?_)
        · replace h := ip_ c20 h
          refine v_ldc2 dX1_resultOf_96 kc_X1_114 ?_
          obtain rfl := Option.some.inj h
          exact v_lret dX1_resultOf_99 rfl rfl
        · replace h := in_ c20 h
          refine v_lload dX1_resultOf_87 rfl ?_
          refine v_ldc2 dX1_resultOf_89 kc_X1_114 ?_
          refine v_lcmp_ne (tgt := 100) dX1_resultOf_92 dX1_resultOf_93 (by decide) (fun c19 => ?_) (fun c19 => ?_)
          · replace h := in_ c19 h
            refine v_aload_n dX1_resultOf_100 rfl rfl ?_
            obtain ⟨x16, hx16, h⟩ := ob_some h
            refine v_getI dX1_resultOf_101 fl_X1_85 hx16 ?_
            refine v_lload_n dX1_resultOf_104 rfl rfl ?_
            refine v_lload dX1_resultOf_105 rfl ?_
            obtain ⟨x17, hx18, h⟩ := ob_some h
            have ehx18 := tX0_combine (l := l) (g := g) (sz := sz) N x16 x8 x14 f hx18
            refine v_cSL dX1_resultOf_107 ml_X1_155 ok_X0_combine ehx18 (by decide) rfl (rest := []) rfl (Nat.le_of_ble_eq_true rfl) ?_
            obtain rfl := Option.some.inj h
            exact v_lret dX1_resultOf_110 rfl rfl
          · replace h := ip_ c19 h
            refine v_ldc2 dX1_resultOf_96 kc_X1_114 ?_
            obtain rfl := Option.some.inj h
            exact v_lret dX1_resultOf_99 rfl rfl
      · replace h := ip_ c26 h
        refine v_aload_n dX1_resultOf_35 rfl rfl ?_
        refine v_aload_n dX1_resultOf_36 rfl rfl ?_
        refine v_aload_n dX1_resultOf_37 rfl rfl ?_
        obtain ⟨x21, hx21, h⟩ := ob_some h
        refine v_getI dX1_resultOf_38 fl_X1_88 hx21 ?_
        rcases bRT_some h with ⟨x22, hx23, h⟩ | ⟨e9, hx23, h⟩
        rotate_left
        · cases h
          have ehx23 := tX1_numbersIn (l := l) (g := g) (sz := sz) N this x21 f hx23
          exact v_cVx dX1_resultOf_41 ml_X1_97 ok_X1_numbersIn ehx23 (kX1_numbersIn N this x21 f hx23) rfl (by decide) rfl (rest := [.ref this]) rfl (Nat.le_of_ble_eq_true rfl) rfl rfl
        have ehx23 := tX1_numbersIn (l := l) (g := g) (sz := sz) N this x21 f hx23
        refine v_cVL dX1_resultOf_41 ml_X1_97 ok_X1_numbersIn ehx23 (kX1_numbersIn N this x21 f hx23) rfl (by decide) rfl (rest := [.ref this]) rfl (Nat.le_of_ble_eq_true rfl) ?_
        rcases bRT_some h with ⟨x24, hx25, h⟩ | ⟨e9, hx25, h⟩
        rotate_left
        · cases h
          have ehx25 := tX1_sumOf (l := l) (g := g) (sz := sz) N this x22 f hx25
          exact v_cVx dX1_resultOf_44 ml_X1_145 ok_X1_sumOf ehx25 (kX1_sumOf N this x22 f hx25) rfl (by decide) rfl (rest := []) rfl (Nat.le_of_ble_eq_true rfl) rfl rfl
        have ehx25 := tX1_sumOf (l := l) (g := g) (sz := sz) N this x22 f hx25
        refine v_cVL dX1_resultOf_44 ml_X1_145 ok_X1_sumOf ehx25 (kX1_sumOf N this x22 f hx25) rfl (by decide) rfl (rest := []) rfl (Nat.le_of_ble_eq_true rfl) ?_
        obtain rfl := Option.some.inj h
        exact v_lret dX1_resultOf_47 rfl rfl
    · replace h := ip_ c28 h
      refine v_aload_n dX1_resultOf_20 rfl rfl ?_
      obtain ⟨x27, hx27, h⟩ := ob_some h
      refine v_getI dX1_resultOf_21 fl_X1_88 hx27 ?_
      refine v_i2l dX1_resultOf_24 ?_
      obtain rfl := Option.some.inj h
      exact v_lret dX1_resultOf_25 rfl rfl
  · replace h := in_ c29 h
    refine v_ldc2 dX1_resultOf_7 kc_X1_114 ?_
    obtain rfl := Option.some.inj h
    exact v_lret dX1_resultOf_10 rfl rfl

/-! X1 writeResult (WT) -/
def DX1_writeResult_25 (N : Nat)  (v0 : Nat) (v1 : Int32) (f : HF) : Option ((Int32 ⊕ String) × HF) :=
    (gR f v0 0 4).bind fun x4 =>
    bW (DX5_add N x4 v1 f) fun x5 f7 =>
    some (.inl (0 : Int32), f7)

def DX1_writeResult (N : Nat) (this : Nat) (p0 : Int32) (p1 : Int64) (f : HF) : Option ((Int32 ⊕ String) × HF) :=
  (ck f this 0).bind fun _ =>
  (gR f this 0 0).bind fun x1 =>
  bRW (DX6_get N x1 p0 f) f fun x2 =>
  if p1 = (-9223372036854775808 : Int64) then
    DX1_writeResult_25 N this p0 f
  else
    (DX0_isBeyond N p1 f).bind fun x8 =>
    if x8 = 0 then
      (gR f this 0 3).bind fun x10 =>
      bW (DX5_clear N x10 f) fun x11 f13 =>
      (gR f13 this 0 3).bind fun x14 =>
      bW (DX0_addWritten N p1 x14 f13) fun x15 f17 =>
      (gR f17 this 0 3).bind fun x18 =>
      (gR f17 x2 1 8).bind fun x19 =>
      (DX5_isSameAs N x18 x19 f17).bind fun x20 =>
      if x20 = 0 then
        (gR f17 x2 1 8).bind fun x22 =>
        (gR f17 this 0 3).bind fun x23 =>
        bW (DX5_become N x22 x23 f17) fun x24 f26 =>
        some (.inl (1 : Int32), f26)
      else
        some (.inl (0 : Int32), f17)
    else
      DX1_writeResult_25 N this p0 f

set_option maxRecDepth 20000 in
theorem tX1_writeResult_25 {l : Launch} {g : GT} {sz : Option Nat} (N : Nat)  {r : ((Int32 ⊕ String) × HF)} : ∀ (v0 : Nat) (v1 : Int32) (f : HF), DX1_writeResult_25 N v0 v1 f = some r → V l g (fun _ => True) (RX1, cX1_writeResult, 5, (Option.some Jvm.ClassFile.FieldType.int), [], "writeResult") 9 (roI r.1 r.2 sz) 25 [(0, .ref v0), (1, .int v1)] [] f sz 0 0 := by
  intro v0 v1 f h
  unfold DX1_writeResult_25 at h
  refine v_aload_n dX1_writeResult_25 rfl rfl ?_
  obtain ⟨x4, hx4, h⟩ := ob_some h
  refine v_getR dX1_writeResult_26 fl_X1_27 hx4 ?_
  refine v_iload_n dX1_writeResult_29 rfl rfl ?_
  obtain ⟨x5, f7, hx6, h⟩ := bW_some h
  have ehx6 := tX5_add (l := l) (g := g) (sz := sz) N x4 v1 f hx6
  refine v_cVI dX1_writeResult_30 ml_X1_122 ok_X5_add ehx6 (kX5_add N x4 v1 f hx6) rfl (by decide) rfl (rest := []) rfl (Nat.le_of_ble_eq_true rfl) ?_
  refine v_pop dX1_writeResult_33 rfl ?_
  refine v_iconst (v := 0) dX1_writeResult_34 (by decide) ?_
  obtain rfl := Option.some.inj h
  exact v_iret dX1_writeResult_35 rfl rfl

set_option maxRecDepth 20000 in
theorem kX1_writeResult (N : Nat) (this : Nat) (p0 : Int32) (p1 : Int64) (f : HF) {r : ((Int32 ⊕ String) × HF)} (h : DX1_writeResult N this p0 p1 f = some r) : ck f this 0 = some () := by
  unfold DX1_writeResult at h
  obtain ⟨_, hck, _⟩ := ob_some h
  exact hck

set_option maxRecDepth 20000 in
theorem tX1_writeResult {l : Launch} {g : GT} {sz : Option Nat} (N : Nat) (this : Nat) (p0 : Int32) (p1 : Int64) (f : HF) {r : ((Int32 ⊕ String) × HF)} (h : DX1_writeResult N this p0 p1 f = some r) : Mt l g yX1_writeResult cX1_writeResult 5 (Option.some Jvm.ClassFile.FieldType.int) 9 [.ref this, .int p0, .long p1] f sz (roI r.1 r.2 sz) := by
  unfold DX1_writeResult at h
  obtain ⟨_, hck, h⟩ := ob_some h
  refine mt_of (by decide) (Nat.le_of_ble_eq_true rfl) (?_ : V l g (fun _ => True) (RX1, cX1_writeResult, 5, (Option.some Jvm.ClassFile.FieldType.int), [], "writeResult") 9 (roI r.1 r.2 sz) 0 [(0, .ref this), (1, .int p0), (2, .long p1)] [] f sz 0 0)
  refine v_aload_n dX1_writeResult_0 rfl rfl ?_
  obtain ⟨x1, hx1, h⟩ := ob_some h
  refine v_getR dX1_writeResult_1 fl_X1_30 hx1 ?_
  refine v_iload_n dX1_writeResult_4 rfl rfl ?_
  rcases bRW_some h with ⟨x2, hx3, h⟩ | ⟨e9, hx3, h⟩
  rotate_left
  · cases h
    have ehx3 := tX6_get (l := l) (g := g) (sz := sz) N x1 p0 f hx3
    exact v_cVx dX1_writeResult_5 ml_X1_34 ok_X6_get ehx3 (kX6_get N x1 p0 f hx3) rfl (by decide) rfl (rest := []) rfl (Nat.le_of_ble_eq_true rfl) rfl rfl
  have ehx3 := tX6_get (l := l) (g := g) (sz := sz) N x1 p0 f hx3
  refine v_cVR dX1_writeResult_5 ml_X1_34 ok_X6_get ehx3 (kX6_get N x1 p0 f hx3) rfl (by decide) rfl (rest := []) rfl (Nat.le_of_ble_eq_true rfl) ?_
  refine v_astore (ls1 := [(4, .ref x2), (0, .ref this), (1, .int p0), (2, .long p1)]) dX1_writeResult_8 (by decide) rfl ?_
  refine v_lload_n dX1_writeResult_10 rfl rfl ?_
  refine v_ldc2 dX1_writeResult_11 kc_X1_114 ?_
  refine v_lcmp_eq (tgt := 25) dX1_writeResult_14 dX1_writeResult_15 (by decide) (fun c29 => ?_) (fun c29 => ?_)
  · replace h := ip_ c29 h
    exact v_sub (vs_c rfl (vs_c rfl vs_n)) (tX1_writeResult_25 N this p0 f h)
  · replace h := in_ c29 h
    refine v_lload_n dX1_writeResult_18 rfl rfl ?_
    obtain ⟨x8, hx9, h⟩ := ob_some h
    have ehx9 := tX0_isBeyond (l := l) (g := g) (sz := sz) N p1 f hx9
    refine v_cSI dX1_writeResult_19 ml_X1_116 ok_X0_isBeyond ehx9 (by decide) rfl (rest := []) rfl (Nat.le_of_ble_eq_true rfl) ?_
    refine v_if_eq (tgt := 36) dX1_writeResult_22 (by decide) (fun c28 => ?_) (fun c28 => ?_)
    · replace h := ip_ c28 h
      refine v_aload_n dX1_writeResult_36 rfl rfl ?_
      obtain ⟨x10, hx10, h⟩ := ob_some h
      refine v_getR dX1_writeResult_37 fl_X1_23 hx10 ?_
      obtain ⟨x11, f13, hx12, h⟩ := bW_some h
      have ehx12 := tX5_clear (l := l) (g := g) (sz := sz) N x10 f hx12
      refine v_cVU dX1_writeResult_40 ml_X1_58 ok_X5_clear ehx12 (kX5_clear N x10 f hx12) rfl (by decide) rfl (rest := []) rfl (Nat.le_of_ble_eq_true rfl) ?_
      refine v_lload_n dX1_writeResult_43 rfl rfl ?_
      refine v_aload_n dX1_writeResult_44 rfl rfl ?_
      obtain ⟨x14, hx14, h⟩ := ob_some h
      refine v_getR dX1_writeResult_45 fl_X1_23 hx14 ?_
      obtain ⟨x15, f17, hx16, h⟩ := bW_some h
      have ehx16 := tX0_addWritten (l := l) (g := g) (sz := sz) N p1 x14 f13 hx16
      refine v_cSU dX1_writeResult_48 ml_X1_126 ok_X0_addWritten ehx16 (by decide) rfl (rest := []) rfl (Nat.le_of_ble_eq_true rfl) ?_
      refine v_aload_n dX1_writeResult_51 rfl rfl ?_
      obtain ⟨x18, hx18, h⟩ := ob_some h
      refine v_getR dX1_writeResult_52 fl_X1_23 hx18 ?_
      refine v_aload dX1_writeResult_55 rfl ?_
      obtain ⟨x19, hx19, h⟩ := ob_some h
      refine v_getR dX1_writeResult_57 fl_X1_130 hx19 ?_
      obtain ⟨x20, hx21, h⟩ := ob_some h
      have ehx21 := tX5_isSameAs (l := l) (g := g) (sz := sz) N x18 x19 f17 hx21
      refine v_cVI dX1_writeResult_60 ml_X1_133 ok_X5_isSameAs ehx21 (kX5_isSameAs N x18 x19 f17 hx21) rfl (by decide) rfl (rest := []) rfl (Nat.le_of_ble_eq_true rfl) ?_
      refine v_if_eq (tgt := 68) dX1_writeResult_63 (by decide) (fun c27 => ?_) (fun c27 => ?_)
      · replace h := ip_ c27 h
        refine v_aload dX1_writeResult_68 rfl ?_
        obtain ⟨x22, hx22, h⟩ := ob_some h
        refine v_getR dX1_writeResult_70 fl_X1_130 hx22 ?_
        refine v_aload_n dX1_writeResult_73 rfl rfl ?_
        obtain ⟨x23, hx23, h⟩ := ob_some h
        refine v_getR dX1_writeResult_74 fl_X1_23 hx23 ?_
        obtain ⟨x24, f26, hx25, h⟩ := bW_some h
        have ehx25 := tX5_become (l := l) (g := g) (sz := sz) N x22 x23 f17 hx25
        refine v_cVU dX1_writeResult_77 ml_X1_137 ok_X5_become ehx25 (kX5_become N x22 x23 f17 hx25) rfl (by decide) rfl (rest := []) rfl (Nat.le_of_ble_eq_true rfl) ?_
        refine v_iconst (v := 1) dX1_writeResult_80 (by decide) ?_
        obtain rfl := Option.some.inj h
        exact v_iret dX1_writeResult_81 rfl rfl
      · replace h := in_ c27 h
        refine v_iconst (v := 0) dX1_writeResult_66 (by decide) ?_
        obtain rfl := Option.some.inj h
        exact v_iret dX1_writeResult_67 rfl rfl
    · replace h := in_ c28 h
      exact v_sub (vs_c rfl (vs_c rfl vs_n)) (tX1_writeResult_25 N this p0 f h)

/-! X1 workOutAll (WT) -/
def DX1_workOutAll_32 (N : Nat)  (n : Nat) (v0 : Nat) (v1 : Int64) (v4 : Int32) (v5 : Int32) (f : HF) : Option ((Int32 ⊕ String) × HF) :=
  match n with
  | 0 => none
  | n + 1 =>
    if (40 : Int32) ≤ v5 then
      some (.inl v4, f)
    else
      if v1 = (0 : Int64) then
        some (.inl v4, f)
      else
        (DX1_leastReady N v0 v1 f).bind fun x11 =>
        if x11 = (-1 : Int32) then
          some (.inl v4, f)
        else
          (gR f v0 0 0).bind fun x13 =>
          bRW (DX6_get N x13 x11 f) f fun x14 =>
          bRW (DX1_resultOf N v0 x14 f) f fun x16 =>
          bWW (DX1_writeResult N v0 x11 x16 f) fun x18 f20 =>
          (DX1_bit N x11 f20).bind fun x21 =>
          DX1_workOutAll_32 N n v0 (v1 &&& (x21 ^^^ (-1 : Int64))) (v4 + x18) (v5 + 1) f20

def DX1_workOutAll (N : Nat) (this : Nat) (f : HF) : Option ((Int32 ⊕ String) × HF) :=
  (ck f this 0).bind fun _ =>
  bWW (DX1_gatherNeeds N this f) fun x1 f3 =>
  bW (DX1_leastInRing N this f3) fun x4 f6 =>
  if x4 = (-1 : Int32) then
    (gR f6 this 0 4).bind fun x7 =>
    bW (DX5_clear N x7 f6) fun x8 f10 =>
    DX1_workOutAll_32 N N this x1 (0 : Int32) (0 : Int32) f10
  else
    some (.inl ((-1 : Int32) - x4), f6)

set_option maxRecDepth 20000 in
theorem tX1_workOutAll_32 {l : Launch} {g : GT} {sz : Option Nat} (N : Nat)  {r : ((Int32 ⊕ String) × HF)} : ∀ (n : Nat), ∀ (v0 : Nat) (v1 : Int64) (v4 : Int32) (v5 : Int32) (f : HF), DX1_workOutAll_32 N n v0 v1 v4 v5 f = some r → V l g (fun _ => True) (RX1, cX1_workOutAll, 7, (Option.some Jvm.ClassFile.FieldType.int), [], "workOutAll") 13 (roI r.1 r.2 sz) 32 [(0, .ref v0), (1, .long v1), (4, .int v4), (5, .int v5)] [] f sz 0 0 := by
  intro n
  induction n with
  | zero => intro v0 v1 v4 v5 f h; cases h
  | succ n ih =>
    intro v0 v1 v4 v5 f h
    rw [DX1_workOutAll_32] at h
    refine v_iload dX1_workOutAll_32 rfl ?_
    refine v_bipush (v := 40) dX1_workOutAll_34 (by decide) ?_
    refine v_icmp_ge (tgt := 103) dX1_workOutAll_36 (by decide) (fun c25 => ?_) (fun c25 => ?_)
    · replace h := ip_ c25 h
      refine v_iload dX1_workOutAll_103 rfl ?_
      obtain rfl := Option.some.inj h
      exact v_iret dX1_workOutAll_105 rfl rfl
    · replace h := in_ c25 h
      refine v_lload_n dX1_workOutAll_39 rfl rfl ?_
      refine v_lconst (v := 0) dX1_workOutAll_40 (by decide) ?_
      refine v_lcmp_eq (tgt := 103) dX1_workOutAll_41 dX1_workOutAll_42 (by decide) (fun c24 => ?_) (fun c24 => ?_)
      · replace h := ip_ c24 h
        refine v_iload dX1_workOutAll_103 rfl ?_
        obtain rfl := Option.some.inj h
        exact v_iret dX1_workOutAll_105 rfl rfl
      · replace h := in_ c24 h
        refine v_aload_n dX1_workOutAll_45 rfl rfl ?_
        refine v_lload_n dX1_workOutAll_46 rfl rfl ?_
        obtain ⟨x11, hx12, h⟩ := ob_some h
        have ehx12 := tX1_leastReady (l := l) (g := g) (sz := sz) N v0 v1 f hx12
        refine v_cVI dX1_workOutAll_47 ml_X1_61 ok_X1_leastReady ehx12 (kX1_leastReady N v0 v1 f hx12) rfl (by decide) rfl (rest := []) rfl (Nat.le_of_ble_eq_true rfl) ?_
        refine v_istore (ls1 := [(6, .int x11), (0, .ref v0), (1, .long v1), (4, .int v4), (5, .int v5)]) dX1_workOutAll_50 (by decide) rfl ?_
        refine v_iload dX1_workOutAll_52 rfl ?_
        refine v_iconst (v := -1) dX1_workOutAll_54 (by decide) ?_
        refine v_icmp_ne (tgt := 61) dX1_workOutAll_55 (by decide) (fun c23 => ?_) (fun c23 => ?_)
        · replace h := in_ c23 h
          refine v_iload dX1_workOutAll_61 rfl ?_
          refine v_aload_n dX1_workOutAll_63 rfl rfl ?_
          refine v_iload dX1_workOutAll_64 rfl ?_
          refine v_aload_n dX1_workOutAll_66 rfl rfl ?_
          refine v_aload_n dX1_workOutAll_67 rfl rfl ?_
          obtain ⟨x13, hx13, h⟩ := ob_some h
          refine v_getR dX1_workOutAll_68 fl_X1_30 hx13 ?_
          refine v_iload dX1_workOutAll_71 rfl ?_
          rcases bRW_some h with ⟨x14, hx15, h⟩ | ⟨e9, hx15, h⟩
          rotate_left
          · cases h
            have ehx15 := tX6_get (l := l) (g := g) (sz := sz) N x13 x11 f hx15
            exact v_cVx dX1_workOutAll_73 ml_X1_34 ok_X6_get ehx15 (kX6_get N x13 x11 f hx15) rfl (by decide) rfl (rest := [.ref v0, .int x11, .ref v0, .int v4]) rfl (Nat.le_of_ble_eq_true rfl) rfl rfl
          have ehx15 := tX6_get (l := l) (g := g) (sz := sz) N x13 x11 f hx15
          refine v_cVR dX1_workOutAll_73 ml_X1_34 ok_X6_get ehx15 (kX6_get N x13 x11 f hx15) rfl (by decide) rfl (rest := [.ref v0, .int x11, .ref v0, .int v4]) rfl (Nat.le_of_ble_eq_true rfl) ?_
          rcases bRW_some h with ⟨x16, hx17, h⟩ | ⟨e9, hx17, h⟩
          rotate_left
          · cases h
            have ehx17 := tX1_resultOf (l := l) (g := g) (sz := sz) N v0 x14 f hx17
            exact v_cVx dX1_workOutAll_76 ml_X1_65 ok_X1_resultOf ehx17 (kX1_resultOf N v0 x14 f hx17) rfl (by decide) rfl (rest := [.int x11, .ref v0, .int v4]) rfl (Nat.le_of_ble_eq_true rfl) rfl rfl
          have ehx17 := tX1_resultOf (l := l) (g := g) (sz := sz) N v0 x14 f hx17
          refine v_cVL dX1_workOutAll_76 ml_X1_65 ok_X1_resultOf ehx17 (kX1_resultOf N v0 x14 f hx17) rfl (by decide) rfl (rest := [.int x11, .ref v0, .int v4]) rfl (Nat.le_of_ble_eq_true rfl) ?_
          rcases bWW_some h with ⟨x18, f20, hx19, h⟩ | ⟨e9, f20, hx19, h⟩
          rotate_left
          · cases h
            have ehx19 := tX1_writeResult (l := l) (g := g) (sz := sz) N v0 x11 x16 f hx19
            exact v_cVx dX1_workOutAll_79 ml_X1_69 ok_X1_writeResult ehx19 (kX1_writeResult N v0 x11 x16 f hx19) rfl (by decide) rfl (rest := [.int v4]) rfl (Nat.le_of_ble_eq_true rfl) rfl rfl
          have ehx19 := tX1_writeResult (l := l) (g := g) (sz := sz) N v0 x11 x16 f hx19
          refine v_cVI dX1_workOutAll_79 ml_X1_69 ok_X1_writeResult ehx19 (kX1_writeResult N v0 x11 x16 f hx19) rfl (by decide) rfl (rest := [.int v4]) rfl (Nat.le_of_ble_eq_true rfl) ?_
          refine v_iadd dX1_workOutAll_82 ?_
          refine v_istore (ls1 := [(4, .int (v4 + x18)), (6, .int x11), (0, .ref v0), (1, .long v1), (5, .int v5)]) dX1_workOutAll_83 (by decide) rfl ?_
          refine v_lload_n dX1_workOutAll_85 rfl rfl ?_
          refine v_iload dX1_workOutAll_86 rfl ?_
          obtain ⟨x21, hx22, h⟩ := ob_some h
          have ehx22 := tX1_bit (l := l) (g := g) (sz := sz) N x11 f20 hx22
          refine v_cSL dX1_workOutAll_88 ml_X1_73 ok_X1_bit ehx22 (by decide) rfl (rest := [.long v1]) rfl (Nat.le_of_ble_eq_true rfl) ?_
          refine v_ldc2 dX1_workOutAll_91 kc_X1_77 ?_
          refine v_lxor dX1_workOutAll_94 ?_
          refine v_land dX1_workOutAll_95 ?_
          refine v_lstore_n (ls1 := [(1, .long (v1 &&& (x21 ^^^ (-1 : Int64)))), (4, .int (v4 + x18)), (6, .int x11), (0, .ref v0), (5, .int v5)]) dX1_workOutAll_96 rfl (by decide) rfl ?_
          refine v_iinc (v := (v5 + 1)) (ls1 := [(5, .int (v5 + 1)), (1, .long (v1 &&& (x21 ^^^ (-1 : Int64)))), (4, .int (v4 + x18)), (6, .int x11), (0, .ref v0)]) dX1_workOutAll_97 rfl rfl (by decide) rfl ?_
          refine v_goto (tgt := 32) dX1_workOutAll_100 (by decide) ?_
          exact v_sub (vs_c rfl (vs_c rfl (vs_c rfl (vs_c rfl vs_n)))) (ih v0 (v1 &&& (x21 ^^^ (-1 : Int64))) (v4 + x18) (v5 + 1) f20 h)
        · replace h := ip_ c23 h
          refine v_iload dX1_workOutAll_58 rfl ?_
          obtain rfl := Option.some.inj h
          exact v_iret dX1_workOutAll_60 rfl rfl

set_option maxRecDepth 20000 in
theorem kX1_workOutAll (N : Nat) (this : Nat) (f : HF) {r : ((Int32 ⊕ String) × HF)} (h : DX1_workOutAll N this f = some r) : ck f this 0 = some () := by
  unfold DX1_workOutAll at h
  obtain ⟨_, hck, _⟩ := ob_some h
  exact hck

set_option maxRecDepth 20000 in
theorem tX1_workOutAll {l : Launch} {g : GT} {sz : Option Nat} (N : Nat) (this : Nat) (f : HF) {r : ((Int32 ⊕ String) × HF)} (h : DX1_workOutAll N this f = some r) : Mt l g yX1_workOutAll cX1_workOutAll 7 (Option.some Jvm.ClassFile.FieldType.int) 13 [.ref this] f sz (roI r.1 r.2 sz) := by
  unfold DX1_workOutAll at h
  obtain ⟨_, hck, h⟩ := ob_some h
  refine mt_of (by decide) (Nat.le_of_ble_eq_true rfl) (?_ : V l g (fun _ => True) (RX1, cX1_workOutAll, 7, (Option.some Jvm.ClassFile.FieldType.int), [], "workOutAll") 13 (roI r.1 r.2 sz) 0 [(0, .ref this)] [] f sz 0 0)
  refine v_aload_n dX1_workOutAll_0 rfl rfl ?_
  rcases bWW_some h with ⟨x1, f3, hx2, h⟩ | ⟨e9, f3, hx2, h⟩
  rotate_left
  · cases h
    have ehx2 := tX1_gatherNeeds (l := l) (g := g) (sz := sz) N this f hx2
    exact v_cVx dX1_workOutAll_1 ml_X1_50 ok_X1_gatherNeeds ehx2 (kX1_gatherNeeds N this f hx2) rfl (by decide) rfl (rest := []) rfl (Nat.le_of_ble_eq_true rfl) rfl rfl
  have ehx2 := tX1_gatherNeeds (l := l) (g := g) (sz := sz) N this f hx2
  refine v_cVL dX1_workOutAll_1 ml_X1_50 ok_X1_gatherNeeds ehx2 (kX1_gatherNeeds N this f hx2) rfl (by decide) rfl (rest := []) rfl (Nat.le_of_ble_eq_true rfl) ?_
  refine v_lstore_n (ls1 := [(1, .long x1), (0, .ref this)]) dX1_workOutAll_4 rfl (by decide) rfl ?_
  refine v_aload_n dX1_workOutAll_5 rfl rfl ?_
  obtain ⟨x4, f6, hx5, h⟩ := bW_some h
  have ehx5 := tX1_leastInRing (l := l) (g := g) (sz := sz) N this f3 hx5
  refine v_cVI dX1_workOutAll_6 ml_X1_54 ok_X1_leastInRing ehx5 (kX1_leastInRing N this f3 hx5) rfl (by decide) rfl (rest := []) rfl (Nat.le_of_ble_eq_true rfl) ?_
  refine v_istore_n (ls1 := [(3, .int x4), (1, .long x1), (0, .ref this)]) dX1_workOutAll_9 rfl (by decide) rfl ?_
  refine v_iload_n dX1_workOutAll_10 rfl rfl ?_
  refine v_iconst (v := -1) dX1_workOutAll_11 (by decide) ?_
  refine v_icmp_eq (tgt := 19) dX1_workOutAll_12 (by decide) (fun c26 => ?_) (fun c26 => ?_)
  · replace h := ip_ c26 h
    refine v_aload_n dX1_workOutAll_19 rfl rfl ?_
    obtain ⟨x7, hx7, h⟩ := ob_some h
    refine v_getR dX1_workOutAll_20 fl_X1_27 hx7 ?_
    obtain ⟨x8, f10, hx9, h⟩ := bW_some h
    have ehx9 := tX5_clear (l := l) (g := g) (sz := sz) N x7 f6 hx9
    refine v_cVU dX1_workOutAll_23 ml_X1_58 ok_X5_clear ehx9 (kX5_clear N x7 f6 hx9) rfl (by decide) rfl (rest := []) rfl (Nat.le_of_ble_eq_true rfl) ?_
    refine v_iconst (v := 0) dX1_workOutAll_26 (by decide) ?_
    refine v_istore (ls1 := [(4, .int (0 : Int32)), (3, .int x4), (1, .long x1), (0, .ref this)]) dX1_workOutAll_27 (by decide) rfl ?_
    refine v_iconst (v := 0) dX1_workOutAll_29 (by decide) ?_
    refine v_istore (ls1 := [(5, .int (0 : Int32)), (4, .int (0 : Int32)), (3, .int x4), (1, .long x1), (0, .ref this)]) dX1_workOutAll_30 (by decide) rfl ?_
    exact v_sub (vs_c rfl (vs_c rfl (vs_c rfl (vs_c rfl vs_n)))) (tX1_workOutAll_32 N N this x1 (0 : Int32) (0 : Int32) f10 h)
  · replace h := in_ c26 h
    refine v_iconst (v := -1) dX1_workOutAll_15 (by decide) ?_
    refine v_iload_n dX1_workOutAll_16 rfl rfl ?_
    refine v_isub dX1_workOutAll_17 ?_
    obtain rfl := Option.some.inj h
    exact v_iret dX1_workOutAll_18 rfl rfl

