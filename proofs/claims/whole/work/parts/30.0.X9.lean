/-! X9 field (WT) -/
def DX9_field_119 (N : Nat)  (v0 : Nat) (v1 : Int32) (v2 : Int32) (v3 : Int32) (v5 : Int32) (f : HF) : Option ((Int32 ⊕ String) × HF) :=
    (gR f v0 8 0).bind fun x8 =>
    bWW (DX6_add N x8 v1 v2 v3 v5 f) fun x9 f11 =>
    some (.inl x9, f11)

def DX9_field_77 (N : Nat)  (v0 : Nat) (v1 : Int32) (v2 : Int32) (v3 : Int32) (v4 : Int32) (f : HF) : Option ((Int32 ⊕ String) × HF) :=
    (gR f v0 8 0).bind fun x5 =>
    bRW (DX6_firstNamed N x5 v4 v3 f) f fun x6 =>
    if x6 = (-1 : Int32) then
      DX9_field_119 N v0 v1 v2 v3 x6 f
    else
      (gR f v0 8 0).bind fun x12 =>
      bRW (DX6_get N x12 x6 f) f fun x13 =>
      (gI f x13 1 1).bind fun x15 =>
      if x15 = v2 then
        DX9_field_119 N v0 v1 v2 v3 x6 f
      else
        some (.inr "java/lang/IllegalStateException", f)

def DX9_field_20 (N : Nat)  (v0 : Nat) (v1 : Int32) (v2 : Int32) (v3 : Int32) (s0 : Int32) (f : HF) : Option ((Int32 ⊕ String) × HF) :=
    if v2 < 0 then
      some (.inr "java/lang/IllegalArgumentException", f)
    else
      if (5 : Int32) < v2 then
        some (.inr "java/lang/IllegalArgumentException", f)
      else
        if v3 < 0 then
          some (.inr "java/lang/IllegalArgumentException", f)
        else
          if v3 ≤ (999 : Int32) then
            if v1 = (-1 : Int32) then
              DX9_field_77 N v0 v1 v2 v3 s0 f
            else
              (gR f v0 8 0).bind fun x18 =>
              bRW (DX6_get N x18 v1 f) f fun x19 =>
              (gI f x19 1 1).bind fun x21 =>
              if x21 = 0 then
                DX9_field_77 N v0 v1 v2 v3 s0 f
              else
                some (.inr "java/lang/IllegalArgumentException", f)
          else
            some (.inr "java/lang/IllegalArgumentException", f)

def DX9_field (N : Nat) (this : Nat) (p0 : Int32) (p1 : Int32) (p2 : Int32) (f : HF) : Option ((Int32 ⊕ String) × HF) :=
  (ck f this 8).bind fun _ =>
  if p0 = (-1 : Int32) then
    DX9_field_20 N this p0 p1 p2 (-1 : Int32) f
  else
    (gR f this 8 0).bind fun x1 =>
    bRW (DX6_get N x1 p0 f) f fun x2 =>
    (gI f x2 1 4).bind fun x4 =>
    DX9_field_20 N this p0 p1 p2 x4 f

set_option maxRecDepth 20000 in
theorem tX9_field_119 {l : Launch} {g : GT} {sz : Option Nat} (N : Nat)  {r : ((Int32 ⊕ String) × HF)} : ∀ (v0 : Nat) (v1 : Int32) (v2 : Int32) (v3 : Int32) (v5 : Int32) (f : HF), DX9_field_119 N v0 v1 v2 v3 v5 f = some r → V l g (fun _ => True) (RX9, cX9_field, 6, (Option.some Jvm.ClassFile.FieldType.int), [], "field") 10 (roI r.1 r.2 sz) 119 [(0, .ref v0), (1, .int v1), (2, .int v2), (3, .int v3), (5, .int v5)] [] f sz 0 0 := by
  intro v0 v1 v2 v3 v5 f h
  unfold DX9_field_119 at h
  refine v_aload_n dX9_field_119 rfl rfl ?_
  obtain ⟨x8, hx8, h⟩ := ob_some h
  refine v_getR dX9_field_120 fl_X9_12 hx8 ?_
  refine v_iload_n dX9_field_123 rfl rfl ?_
  refine v_iload_n dX9_field_124 rfl rfl ?_
  refine v_iload_n dX9_field_125 rfl rfl ?_
  refine v_iload dX9_field_126 rfl ?_
  rcases bWW_some h with ⟨x9, f11, hx10, h⟩ | ⟨e9, f11, hx10, h⟩
  rotate_left
  · cases h
    have ehx10 := tX6_add (l := l) (g := g) (sz := sz) N x8 v1 v2 v3 v5 f hx10
    exact v_cVx dX9_field_128 ml_X9_83 ok_X6_add ehx10 (kX6_add N x8 v1 v2 v3 v5 f hx10) rfl (by decide) rfl (rest := []) rfl (Nat.le_of_ble_eq_true rfl) rfl rfl
  have ehx10 := tX6_add (l := l) (g := g) (sz := sz) N x8 v1 v2 v3 v5 f hx10
  refine v_cVI dX9_field_128 ml_X9_83 ok_X6_add ehx10 (kX6_add N x8 v1 v2 v3 v5 f hx10) rfl (by decide) rfl (rest := []) rfl (Nat.le_of_ble_eq_true rfl) ?_
  obtain rfl := Option.some.inj h
  exact v_iret dX9_field_131 rfl rfl

set_option maxRecDepth 20000 in
theorem tX9_field_77 {l : Launch} {g : GT} {sz : Option Nat} (N : Nat)  {r : ((Int32 ⊕ String) × HF)} : ∀ (v0 : Nat) (v1 : Int32) (v2 : Int32) (v3 : Int32) (v4 : Int32) (f : HF), DX9_field_77 N v0 v1 v2 v3 v4 f = some r → V l g (fun _ => True) (RX9, cX9_field, 6, (Option.some Jvm.ClassFile.FieldType.int), [], "field") 10 (roI r.1 r.2 sz) 77 [(0, .ref v0), (1, .int v1), (2, .int v2), (3, .int v3), (4, .int v4)] [] f sz 0 0 := by
  intro v0 v1 v2 v3 v4 f h
  unfold DX9_field_77 at h
  refine v_aload_n dX9_field_77 rfl rfl ?_
  obtain ⟨x5, hx5, h⟩ := ob_some h
  refine v_getR dX9_field_78 fl_X9_12 hx5 ?_
  refine v_iload dX9_field_81 rfl ?_
  refine v_iload_n dX9_field_83 rfl rfl ?_
  rcases bRW_some h with ⟨x6, hx7, h⟩ | ⟨e9, hx7, h⟩
  rotate_left
  · cases h
    have ehx7 := tX6_firstNamed (l := l) (g := g) (sz := sz) N x5 v4 v3 f hx7
    exact v_cVx dX9_field_84 ml_X9_76 ok_X6_firstNamed ehx7 (kX6_firstNamed N x5 v4 v3 f hx7) rfl (by decide) rfl (rest := []) rfl (Nat.le_of_ble_eq_true rfl) rfl rfl
  have ehx7 := tX6_firstNamed (l := l) (g := g) (sz := sz) N x5 v4 v3 f hx7
  refine v_cVI dX9_field_84 ml_X9_76 ok_X6_firstNamed ehx7 (kX6_firstNamed N x5 v4 v3 f hx7) rfl (by decide) rfl (rest := []) rfl (Nat.le_of_ble_eq_true rfl) ?_
  refine v_istore (ls1 := [(5, .int x6), (0, .ref v0), (1, .int v1), (2, .int v2), (3, .int v3), (4, .int v4)]) dX9_field_87 (by decide) rfl ?_
  refine v_iload dX9_field_89 rfl ?_
  refine v_iconst (v := -1) dX9_field_91 (by decide) ?_
  refine v_icmp_eq (tgt := 119) dX9_field_92 (by decide) (fun c17 => ?_) (fun c17 => ?_)
  · replace h := ip_ c17 h
    exact v_sub (vs_c rfl (vs_c rfl (vs_c rfl (vs_c rfl (vs_c rfl vs_n))))) (tX9_field_119 N v0 v1 v2 v3 x6 f h)
  · replace h := in_ c17 h
    refine v_aload_n dX9_field_95 rfl rfl ?_
    obtain ⟨x12, hx12, h⟩ := ob_some h
    refine v_getR dX9_field_96 fl_X9_12 hx12 ?_
    refine v_iload dX9_field_99 rfl ?_
    rcases bRW_some h with ⟨x13, hx14, h⟩ | ⟨e9, hx14, h⟩
    rotate_left
    · cases h
      have ehx14 := tX6_get (l := l) (g := g) (sz := sz) N x12 x6 f hx14
      exact v_cVx dX9_field_101 ml_X9_60 ok_X6_get ehx14 (kX6_get N x12 x6 f hx14) rfl (by decide) rfl (rest := []) rfl (Nat.le_of_ble_eq_true rfl) rfl rfl
    have ehx14 := tX6_get (l := l) (g := g) (sz := sz) N x12 x6 f hx14
    refine v_cVR dX9_field_101 ml_X9_60 ok_X6_get ehx14 (kX6_get N x12 x6 f hx14) rfl (by decide) rfl (rest := []) rfl (Nat.le_of_ble_eq_true rfl) ?_
    obtain ⟨x15, hx15, h⟩ := ob_some h
    refine v_getI dX9_field_104 fl_X9_73 hx15 ?_
    refine v_iload_n dX9_field_107 rfl rfl ?_
    refine v_icmp_eq (tgt := 119) dX9_field_108 (by decide) (fun c16 => ?_) (fun c16 => ?_)
    · replace h := ip_ c16 h
      exact v_sub (vs_c rfl (vs_c rfl (vs_c rfl (vs_c rfl (vs_c rfl vs_n))))) (tX9_field_119 N v0 v1 v2 v3 x6 f h)
    · replace h := in_ c16 h
      obtain rfl := Option.some.inj h
      exact v_thr dX9_field_111 dX9_field_114 dX9_field_115 dX9_field_118 th_X9_80_82 (by decide) rfl (Nat.le_of_ble_eq_true rfl) rfl

set_option maxRecDepth 20000 in
theorem tX9_field_20 {l : Launch} {g : GT} {sz : Option Nat} (N : Nat)  {r : ((Int32 ⊕ String) × HF)} : ∀ (v0 : Nat) (v1 : Int32) (v2 : Int32) (v3 : Int32) (s0 : Int32) (f : HF), DX9_field_20 N v0 v1 v2 v3 s0 f = some r → V l g (fun _ => True) (RX9, cX9_field, 6, (Option.some Jvm.ClassFile.FieldType.int), [], "field") 10 (roI r.1 r.2 sz) 20 [(0, .ref v0), (1, .int v1), (2, .int v2), (3, .int v3)] [.int s0] f sz 0 0 := by
  intro v0 v1 v2 v3 s0 f h
  unfold DX9_field_20 at h
  refine v_istore (ls1 := [(4, .int s0), (0, .ref v0), (1, .int v1), (2, .int v2), (3, .int v3)]) dX9_field_20 (by decide) rfl ?_
  refine v_iload_n dX9_field_22 rfl rfl ?_
  refine v_if_lt (tgt := 42) dX9_field_23 (by decide) (fun c27 => ?_) (fun c27 => ?_)
  · replace h := ip_ c27 h
    obtain rfl := Option.some.inj h
    exact v_thr dX9_field_42 dX9_field_45 dX9_field_46 dX9_field_49 th_X9_70_72 (by decide) rfl (Nat.le_of_ble_eq_true rfl) rfl
  · replace h := in_ c27 h
    refine v_iload_n dX9_field_26 rfl rfl ?_
    refine v_iconst (v := 5) dX9_field_27 (by decide) ?_
    refine v_icmp_gt (tgt := 42) dX9_field_28 (by decide) (fun c26 => ?_) (fun c26 => ?_)
    · replace h := ip_ c26 h
      obtain rfl := Option.some.inj h
      exact v_thr dX9_field_42 dX9_field_45 dX9_field_46 dX9_field_49 th_X9_70_72 (by decide) rfl (Nat.le_of_ble_eq_true rfl) rfl
    · replace h := in_ c26 h
      refine v_iload_n dX9_field_31 rfl rfl ?_
      refine v_if_lt (tgt := 42) dX9_field_32 (by decide) (fun c25 => ?_) (fun c25 => ?_)
      · replace h := ip_ c25 h
        obtain rfl := Option.some.inj h
        exact v_thr dX9_field_42 dX9_field_45 dX9_field_46 dX9_field_49 th_X9_70_72 (by decide) rfl (Nat.le_of_ble_eq_true rfl) rfl
      · replace h := in_ c25 h
        refine v_iload_n dX9_field_35 rfl rfl ?_
        refine v_sipush (v := 999) dX9_field_36 (by decide) ?_
        refine v_icmp_le (tgt := 50) dX9_field_39 (by decide) (fun c24 => ?_) (fun c24 => ?_)
        · replace h := ip_ c24 h
          refine v_iload_n dX9_field_50 rfl rfl ?_
          refine v_iconst (v := -1) dX9_field_51 (by decide) ?_
          refine v_icmp_eq (tgt := 77) dX9_field_52 (by decide) (fun c23 => ?_) (fun c23 => ?_)
          · replace h := ip_ c23 h
            exact v_sub (vs_c rfl (vs_c rfl (vs_c rfl (vs_c rfl (vs_c rfl vs_n))))) (tX9_field_77 N v0 v1 v2 v3 s0 f h)
          · replace h := in_ c23 h
            refine v_aload_n dX9_field_55 rfl rfl ?_
            obtain ⟨x18, hx18, h⟩ := ob_some h
            refine v_getR dX9_field_56 fl_X9_12 hx18 ?_
            refine v_iload_n dX9_field_59 rfl rfl ?_
            rcases bRW_some h with ⟨x19, hx20, h⟩ | ⟨e9, hx20, h⟩
            rotate_left
            · cases h
              have ehx20 := tX6_get (l := l) (g := g) (sz := sz) N x18 v1 f hx20
              exact v_cVx dX9_field_60 ml_X9_60 ok_X6_get ehx20 (kX6_get N x18 v1 f hx20) rfl (by decide) rfl (rest := []) rfl (Nat.le_of_ble_eq_true rfl) rfl rfl
            have ehx20 := tX6_get (l := l) (g := g) (sz := sz) N x18 v1 f hx20
            refine v_cVR dX9_field_60 ml_X9_60 ok_X6_get ehx20 (kX6_get N x18 v1 f hx20) rfl (by decide) rfl (rest := []) rfl (Nat.le_of_ble_eq_true rfl) ?_
            obtain ⟨x21, hx21, h⟩ := ob_some h
            refine v_getI dX9_field_63 fl_X9_73 hx21 ?_
            refine v_if_eq (tgt := 77) dX9_field_66 (by decide) (fun c22 => ?_) (fun c22 => ?_)
            · replace h := ip_ c22 h
              exact v_sub (vs_c rfl (vs_c rfl (vs_c rfl (vs_c rfl (vs_c rfl vs_n))))) (tX9_field_77 N v0 v1 v2 v3 s0 f h)
            · replace h := in_ c22 h
              obtain rfl := Option.some.inj h
              exact v_thr dX9_field_69 dX9_field_72 dX9_field_73 dX9_field_76 th_X9_70_72 (by decide) rfl (Nat.le_of_ble_eq_true rfl) rfl
        · replace h := in_ c24 h
          obtain rfl := Option.some.inj h
          exact v_thr dX9_field_42 dX9_field_45 dX9_field_46 dX9_field_49 th_X9_70_72 (by decide) rfl (Nat.le_of_ble_eq_true rfl) rfl

set_option maxRecDepth 20000 in
theorem kX9_field (N : Nat) (this : Nat) (p0 : Int32) (p1 : Int32) (p2 : Int32) (f : HF) {r : ((Int32 ⊕ String) × HF)} (h : DX9_field N this p0 p1 p2 f = some r) : ck f this 8 = some () := by
  unfold DX9_field at h
  obtain ⟨_, hck, _⟩ := ob_some h
  exact hck

set_option maxRecDepth 20000 in
theorem tX9_field {l : Launch} {g : GT} {sz : Option Nat} (N : Nat) (this : Nat) (p0 : Int32) (p1 : Int32) (p2 : Int32) (f : HF) {r : ((Int32 ⊕ String) × HF)} (h : DX9_field N this p0 p1 p2 f = some r) : Mt l g yX9_field cX9_field 6 (Option.some Jvm.ClassFile.FieldType.int) 10 [.ref this, .int p0, .int p1, .int p2] f sz (roI r.1 r.2 sz) := by
  unfold DX9_field at h
  obtain ⟨_, hck, h⟩ := ob_some h
  refine mt_of (by decide) (Nat.le_of_ble_eq_true rfl) (?_ : V l g (fun _ => True) (RX9, cX9_field, 6, (Option.some Jvm.ClassFile.FieldType.int), [], "field") 10 (roI r.1 r.2 sz) 0 [(0, .ref this), (1, .int p0), (2, .int p1), (3, .int p2)] [] f sz 0 0)
  refine v_iload_n dX9_field_0 rfl rfl ?_
  refine v_iconst (v := -1) dX9_field_1 (by decide) ?_
  refine v_icmp_ne (tgt := 9) dX9_field_2 (by decide) (fun c28 => ?_) (fun c28 => ?_)
  · replace h := in_ c28 h
    refine v_aload_n dX9_field_9 rfl rfl ?_
    obtain ⟨x1, hx1, h⟩ := ob_some h
    refine v_getR dX9_field_10 fl_X9_12 hx1 ?_
    refine v_iload_n dX9_field_13 rfl rfl ?_
    rcases bRW_some h with ⟨x2, hx3, h⟩ | ⟨e9, hx3, h⟩
    rotate_left
    · cases h
      have ehx3 := tX6_get (l := l) (g := g) (sz := sz) N x1 p0 f hx3
      exact v_cVx dX9_field_14 ml_X9_60 ok_X6_get ehx3 (kX6_get N x1 p0 f hx3) rfl (by decide) rfl (rest := []) rfl (Nat.le_of_ble_eq_true rfl) rfl rfl
    have ehx3 := tX6_get (l := l) (g := g) (sz := sz) N x1 p0 f hx3
    refine v_cVR dX9_field_14 ml_X9_60 ok_X6_get ehx3 (kX6_get N x1 p0 f hx3) rfl (by decide) rfl (rest := []) rfl (Nat.le_of_ble_eq_true rfl) ?_
    obtain ⟨x4, hx4, h⟩ := ob_some h
    refine v_getI dX9_field_17 fl_X9_64 hx4 ?_
    exact v_sub (vs_c rfl (vs_c rfl (vs_c rfl (vs_c rfl vs_n)))) (tX9_field_20 N this p0 p1 p2 x4 f h)
  · replace h := ip_ c28 h
    refine v_iconst (v := -1) dX9_field_5 (by decide) ?_
    refine v_goto (tgt := 20) dX9_field_6 (by decide) ?_
    exact v_sub (vs_c rfl (vs_c rfl (vs_c rfl (vs_c rfl vs_n)))) (tX9_field_20 N this p0 p1 p2 (-1 : Int32) f h)

/-! X9 value (WT) -/
def DX9_value (N : Nat) (this : Nat) (p0 : Int32) (p1 : Int32) (f : HF) : Option ((Int32 ⊕ String) × HF) :=
  (ck f this 8).bind fun _ =>
  (gR f this 8 0).bind fun x1 =>
  bRW (DX6_get N x1 p0 f) f fun x2 =>
  (gR f this 8 0).bind fun x4 =>
  bRW (DX6_masterOf N x4 p0 f) f fun x5 =>
  (DX2_couldTake N x5 p1 f).bind fun x7 =>
  if x7 = 0 then
    some (.inr "java/lang/IllegalArgumentException", f)
  else
    (gI f x5 1 6).bind fun x9 =>
    if x9 = 0 then
      (gI f x2 1 5).bind fun x10 =>
      if x10 = 0 then
        (DX2_hasSigns N x5 f).bind fun x11 =>
        if x11 = 0 then
          bW (DX2_pick N x5 p1 f) fun x13 f15 =>
          some (.inl x13, f15)
        else
          bWW (DX2_takeSign N x5 p1 f) fun x16 f18 =>
          some (.inl x16, f18)
      else
        some (.inr "java/lang/IllegalStateException", f)
    else
      some (.inr "java/lang/IllegalStateException", f)

set_option maxRecDepth 20000 in
theorem kX9_value (N : Nat) (this : Nat) (p0 : Int32) (p1 : Int32) (f : HF) {r : ((Int32 ⊕ String) × HF)} (h : DX9_value N this p0 p1 f = some r) : ck f this 8 = some () := by
  unfold DX9_value at h
  obtain ⟨_, hck, _⟩ := ob_some h
  exact hck

set_option maxRecDepth 20000 in
theorem tX9_value {l : Launch} {g : GT} {sz : Option Nat} (N : Nat) (this : Nat) (p0 : Int32) (p1 : Int32) (f : HF) {r : ((Int32 ⊕ String) × HF)} (h : DX9_value N this p0 p1 f = some r) : Mt l g yX9_value cX9_value 5 (Option.some Jvm.ClassFile.FieldType.int) 10 [.ref this, .int p0, .int p1] f sz (roI r.1 r.2 sz) := by
  unfold DX9_value at h
  obtain ⟨_, hck, h⟩ := ob_some h
  refine mt_of (by decide) (Nat.le_of_ble_eq_true rfl) (?_ : V l g (fun _ => True) (RX9, cX9_value, 5, (Option.some Jvm.ClassFile.FieldType.int), [], "value") 10 (roI r.1 r.2 sz) 0 [(0, .ref this), (1, .int p0), (2, .int p1)] [] f sz 0 0)
  refine v_aload_n dX9_value_0 rfl rfl ?_
  obtain ⟨x1, hx1, h⟩ := ob_some h
  refine v_getR dX9_value_1 fl_X9_12 hx1 ?_
  refine v_iload_n dX9_value_4 rfl rfl ?_
  rcases bRW_some h with ⟨x2, hx3, h⟩ | ⟨e9, hx3, h⟩
  rotate_left
  · cases h
    have ehx3 := tX6_get (l := l) (g := g) (sz := sz) N x1 p0 f hx3
    exact v_cVx dX9_value_5 ml_X9_60 ok_X6_get ehx3 (kX6_get N x1 p0 f hx3) rfl (by decide) rfl (rest := []) rfl (Nat.le_of_ble_eq_true rfl) rfl rfl
  have ehx3 := tX6_get (l := l) (g := g) (sz := sz) N x1 p0 f hx3
  refine v_cVR dX9_value_5 ml_X9_60 ok_X6_get ehx3 (kX6_get N x1 p0 f hx3) rfl (by decide) rfl (rest := []) rfl (Nat.le_of_ble_eq_true rfl) ?_
  refine v_astore_n (ls1 := [(3, .ref x2), (0, .ref this), (1, .int p0), (2, .int p1)]) dX9_value_8 rfl (by decide) rfl ?_
  refine v_aload_n dX9_value_9 rfl rfl ?_
  obtain ⟨x4, hx4, h⟩ := ob_some h
  refine v_getR dX9_value_10 fl_X9_12 hx4 ?_
  refine v_iload_n dX9_value_13 rfl rfl ?_
  rcases bRW_some h with ⟨x5, hx6, h⟩ | ⟨e9, hx6, h⟩
  rotate_left
  · cases h
    have ehx6 := tX6_masterOf (l := l) (g := g) (sz := sz) N x4 p0 f hx6
    exact v_cVx dX9_value_14 ml_X9_87 ok_X6_masterOf ehx6 (kX6_masterOf N x4 p0 f hx6) rfl (by decide) rfl (rest := []) rfl (Nat.le_of_ble_eq_true rfl) rfl rfl
  have ehx6 := tX6_masterOf (l := l) (g := g) (sz := sz) N x4 p0 f hx6
  refine v_cVR dX9_value_14 ml_X9_87 ok_X6_masterOf ehx6 (kX6_masterOf N x4 p0 f hx6) rfl (by decide) rfl (rest := []) rfl (Nat.le_of_ble_eq_true rfl) ?_
  refine v_astore (ls1 := [(4, .ref x5), (3, .ref x2), (0, .ref this), (1, .int p0), (2, .int p1)]) dX9_value_17 (by decide) rfl ?_
  refine v_aload dX9_value_19 rfl ?_
  refine v_iload_n dX9_value_21 rfl rfl ?_
  obtain ⟨x7, hx8, h⟩ := ob_some h
  have ehx8 := tX2_couldTake (l := l) (g := g) (sz := sz) N x5 p1 f hx8
  refine v_cVI dX9_value_22 ml_X9_90 ok_X2_couldTake ehx8 (kX2_couldTake N x5 p1 f hx8) rfl (by decide) rfl (rest := []) rfl (Nat.le_of_ble_eq_true rfl) ?_
  refine v_if_ne (tgt := 36) dX9_value_25 (by decide) (fun c22 => ?_) (fun c22 => ?_)
  · replace h := in_ c22 h
    refine v_aload dX9_value_36 rfl ?_
    obtain ⟨x9, hx9, h⟩ := ob_some h
    refine v_getI dX9_value_38 fl_X9_94 hx9 ?_
    refine v_if_ne (tgt := 51) dX9_value_41 (by decide) (fun c21 => ?_) (fun c21 => ?_)
    · replace h := in_ c21 h
      obtain rfl := Option.some.inj h
      exact v_thr dX9_value_51 dX9_value_54 dX9_value_55 dX9_value_58 th_X9_80_82 (by decide) rfl (Nat.le_of_ble_eq_true rfl) rfl
    · replace h := ip_ c21 h
      refine v_aload_n dX9_value_44 rfl rfl ?_
      obtain ⟨x10, hx10, h⟩ := ob_some h
      refine v_getI dX9_value_45 fl_X9_98 hx10 ?_
      refine v_if_eq (tgt := 59) dX9_value_48 (by decide) (fun c20 => ?_) (fun c20 => ?_)
      · replace h := ip_ c20 h
        refine v_aload dX9_value_59 rfl ?_
        obtain ⟨x11, hx12, h⟩ := ob_some h
        have ehx12 := tX2_hasSigns (l := l) (g := g) (sz := sz) N x5 f hx12
        refine v_cVI dX9_value_61 ml_X9_101 ok_X2_hasSigns ehx12 (kX2_hasSigns N x5 f hx12) rfl (by decide) rfl (rest := []) rfl (Nat.le_of_ble_eq_true rfl) ?_
        refine v_if_eq (tgt := 76) dX9_value_64 (by decide) (fun c19 => ?_) (fun c19 => ?_)
        · replace h := ip_ c19 h
          refine v_aload dX9_value_76 rfl ?_
          refine v_iload_n dX9_value_78 rfl rfl ?_
          obtain ⟨x13, f15, hx14, h⟩ := bW_some h
          have ehx14 := tX2_pick (l := l) (g := g) (sz := sz) N x5 p1 f hx14
          refine v_cVI dX9_value_79 ml_X9_109 ok_X2_pick ehx14 (kX2_pick N x5 p1 f hx14) rfl (by decide) rfl (rest := []) rfl (Nat.le_of_ble_eq_true rfl) ?_
          obtain rfl := Option.some.inj h
          exact v_iret dX9_value_82 rfl rfl
        · replace h := in_ c19 h
          refine v_aload dX9_value_67 rfl ?_
          refine v_iload_n dX9_value_69 rfl rfl ?_
          rcases bWW_some h with ⟨x16, f18, hx17, h⟩ | ⟨e9, f18, hx17, h⟩
          rotate_left
          · cases h
            have ehx17 := tX2_takeSign (l := l) (g := g) (sz := sz) N x5 p1 f hx17
            exact v_cVx dX9_value_70 ml_X9_105 ok_X2_takeSign ehx17 (kX2_takeSign N x5 p1 f hx17) rfl (by decide) rfl (rest := []) rfl (Nat.le_of_ble_eq_true rfl) rfl rfl
          have ehx17 := tX2_takeSign (l := l) (g := g) (sz := sz) N x5 p1 f hx17
          refine v_cVI dX9_value_70 ml_X9_105 ok_X2_takeSign ehx17 (kX2_takeSign N x5 p1 f hx17) rfl (by decide) rfl (rest := []) rfl (Nat.le_of_ble_eq_true rfl) ?_
          refine v_goto (tgt := 82) dX9_value_73 (by decide) ?_
          obtain rfl := Option.some.inj h
          exact v_iret dX9_value_82 rfl rfl
      · replace h := in_ c20 h
        obtain rfl := Option.some.inj h
        exact v_thr dX9_value_51 dX9_value_54 dX9_value_55 dX9_value_58 th_X9_80_82 (by decide) rfl (Nat.le_of_ble_eq_true rfl) rfl
  · replace h := ip_ c22 h
    obtain rfl := Option.some.inj h
    exact v_thr dX9_value_28 dX9_value_31 dX9_value_32 dX9_value_35 th_X9_70_72 (by decide) rfl (Nat.le_of_ble_eq_true rfl) rfl

/-! X9 option (WT) -/
def DX9_option (N : Nat) (this : Nat) (p0 : Int32) (p1 : Int32) (f : HF) : Option ((Int32 ⊕ String) × HF) :=
  (ck f this 8).bind fun _ =>
  (gR f this 8 0).bind fun x1 =>
  bRW (DX6_masterOf N x1 p0 f) f fun x2 =>
  (DX2_hasOptions N x2 f).bind fun x4 =>
  if x4 = 0 then
    some (.inr "java/lang/IllegalArgumentException", f)
  else
    if p1 < 0 then
      some (.inr "java/lang/IllegalArgumentException", f)
    else
      if (99999 : Int32) < p1 then
        some (.inr "java/lang/IllegalArgumentException", f)
      else
        (gR f x2 1 9).bind fun x6 =>
        (DX5_find N x6 p1 f).bind fun x7 =>
        if x7 = (-1 : Int32) then
          (gR f x2 1 9).bind fun x9 =>
          bW (DX5_add N x9 p1 f) fun x10 f12 =>
          if x10 = 0 then
            some (.inr "java/lang/UnsupportedOperationException", f12)
          else
            (gR f12 x2 1 9).bind fun x13 =>
            (DX5_count N x13 f12).bind fun x14 =>
            some (.inl (x14 - (1 : Int32)), f12)
        else
          some (.inr "java/lang/IllegalArgumentException", f)

set_option maxRecDepth 20000 in
theorem kX9_option (N : Nat) (this : Nat) (p0 : Int32) (p1 : Int32) (f : HF) {r : ((Int32 ⊕ String) × HF)} (h : DX9_option N this p0 p1 f = some r) : ck f this 8 = some () := by
  unfold DX9_option at h
  obtain ⟨_, hck, _⟩ := ob_some h
  exact hck

set_option maxRecDepth 20000 in
theorem tX9_option {l : Launch} {g : GT} {sz : Option Nat} (N : Nat) (this : Nat) (p0 : Int32) (p1 : Int32) (f : HF) {r : ((Int32 ⊕ String) × HF)} (h : DX9_option N this p0 p1 f = some r) : Mt l g yX9_option cX9_option 4 (Option.some Jvm.ClassFile.FieldType.int) 10 [.ref this, .int p0, .int p1] f sz (roI r.1 r.2 sz) := by
  unfold DX9_option at h
  obtain ⟨_, hck, h⟩ := ob_some h
  refine mt_of (by decide) (Nat.le_of_ble_eq_true rfl) (?_ : V l g (fun _ => True) (RX9, cX9_option, 4, (Option.some Jvm.ClassFile.FieldType.int), [], "option") 10 (roI r.1 r.2 sz) 0 [(0, .ref this), (1, .int p0), (2, .int p1)] [] f sz 0 0)
  refine v_aload_n dX9_option_0 rfl rfl ?_
  obtain ⟨x1, hx1, h⟩ := ob_some h
  refine v_getR dX9_option_1 fl_X9_12 hx1 ?_
  refine v_iload_n dX9_option_4 rfl rfl ?_
  rcases bRW_some h with ⟨x2, hx3, h⟩ | ⟨e9, hx3, h⟩
  rotate_left
  · cases h
    have ehx3 := tX6_masterOf (l := l) (g := g) (sz := sz) N x1 p0 f hx3
    exact v_cVx dX9_option_5 ml_X9_87 ok_X6_masterOf ehx3 (kX6_masterOf N x1 p0 f hx3) rfl (by decide) rfl (rest := []) rfl (Nat.le_of_ble_eq_true rfl) rfl rfl
  have ehx3 := tX6_masterOf (l := l) (g := g) (sz := sz) N x1 p0 f hx3
  refine v_cVR dX9_option_5 ml_X9_87 ok_X6_masterOf ehx3 (kX6_masterOf N x1 p0 f hx3) rfl (by decide) rfl (rest := []) rfl (Nat.le_of_ble_eq_true rfl) ?_
  refine v_astore_n (ls1 := [(3, .ref x2), (0, .ref this), (1, .int p0), (2, .int p1)]) dX9_option_8 rfl (by decide) rfl ?_
  refine v_aload_n dX9_option_9 rfl rfl ?_
  obtain ⟨x4, hx5, h⟩ := ob_some h
  have ehx5 := tX2_hasOptions (l := l) (g := g) (sz := sz) N x2 f hx5
  refine v_cVI dX9_option_10 ml_X9_112 ok_X2_hasOptions ehx5 (kX2_hasOptions N x2 f hx5) rfl (by decide) rfl (rest := []) rfl (Nat.le_of_ble_eq_true rfl) ?_
  refine v_if_eq (tgt := 38) dX9_option_13 (by decide) (fun c20 => ?_) (fun c20 => ?_)
  · replace h := ip_ c20 h
    obtain rfl := Option.some.inj h
    exact v_thr dX9_option_38 dX9_option_41 dX9_option_42 dX9_option_45 th_X9_70_72 (by decide) rfl (Nat.le_of_ble_eq_true rfl) rfl
  · replace h := in_ c20 h
    refine v_iload_n dX9_option_16 rfl rfl ?_
    refine v_if_lt (tgt := 38) dX9_option_17 (by decide) (fun c19 => ?_) (fun c19 => ?_)
    · replace h := ip_ c19 h
      obtain rfl := Option.some.inj h
      exact v_thr dX9_option_38 dX9_option_41 dX9_option_42 dX9_option_45 th_X9_70_72 (by decide) rfl (Nat.le_of_ble_eq_true rfl) rfl
    · replace h := in_ c19 h
      refine v_iload_n dX9_option_20 rfl rfl ?_
      refine v_ldc dX9_option_21 kc_X9_115 ?_
      refine v_icmp_gt (tgt := 38) dX9_option_23 (by decide) (fun c18 => ?_) (fun c18 => ?_)
      · replace h := ip_ c18 h
        obtain rfl := Option.some.inj h
        exact v_thr dX9_option_38 dX9_option_41 dX9_option_42 dX9_option_45 th_X9_70_72 (by decide) rfl (Nat.le_of_ble_eq_true rfl) rfl
      · replace h := in_ c18 h
        refine v_aload_n dX9_option_26 rfl rfl ?_
        obtain ⟨x6, hx6, h⟩ := ob_some h
        refine v_getR dX9_option_27 fl_X9_116 hx6 ?_
        refine v_iload_n dX9_option_30 rfl rfl ?_
        obtain ⟨x7, hx8, h⟩ := ob_some h
        have ehx8 := tX5_find (l := l) (g := g) (sz := sz) N x6 p1 f hx8
        refine v_cVI dX9_option_31 ml_X9_120 ok_X5_find ehx8 (kX5_find N x6 p1 f hx8) rfl (by decide) rfl (rest := []) rfl (Nat.le_of_ble_eq_true rfl) ?_
        refine v_iconst (v := -1) dX9_option_34 (by decide) ?_
        refine v_icmp_eq (tgt := 46) dX9_option_35 (by decide) (fun c17 => ?_) (fun c17 => ?_)
        · replace h := ip_ c17 h
          refine v_aload_n dX9_option_46 rfl rfl ?_
          obtain ⟨x9, hx9, h⟩ := ob_some h
          refine v_getR dX9_option_47 fl_X9_116 hx9 ?_
          refine v_iload_n dX9_option_50 rfl rfl ?_
          obtain ⟨x10, f12, hx11, h⟩ := bW_some h
          have ehx11 := tX5_add (l := l) (g := g) (sz := sz) N x9 p1 f hx11
          refine v_cVI dX9_option_51 ml_X9_125 ok_X5_add ehx11 (kX5_add N x9 p1 f hx11) rfl (by decide) rfl (rest := []) rfl (Nat.le_of_ble_eq_true rfl) ?_
          refine v_if_ne (tgt := 65) dX9_option_54 (by decide) (fun c16 => ?_) (fun c16 => ?_)
          · replace h := in_ c16 h
            refine v_aload_n dX9_option_65 rfl rfl ?_
            obtain ⟨x13, hx13, h⟩ := ob_some h
            refine v_getR dX9_option_66 fl_X9_116 hx13 ?_
            obtain ⟨x14, hx15, h⟩ := ob_some h
            have ehx15 := tX5_count (l := l) (g := g) (sz := sz) N x13 f12 hx15
            refine v_cVI dX9_option_69 ml_X9_130 ok_X5_count ehx15 (kX5_count N x13 f12 hx15) rfl (by decide) rfl (rest := []) rfl (Nat.le_of_ble_eq_true rfl) ?_
            refine v_iconst (v := 1) dX9_option_72 (by decide) ?_
            refine v_isub dX9_option_73 ?_
            obtain rfl := Option.some.inj h
            exact v_iret dX9_option_74 rfl rfl
          · replace h := ip_ c16 h
            obtain rfl := Option.some.inj h
            exact v_thr dX9_option_57 dX9_option_60 dX9_option_61 dX9_option_64 th_X9_127_129 (by decide) rfl (Nat.le_of_ble_eq_true rfl) rfl
        · replace h := in_ c17 h
          obtain rfl := Option.some.inj h
          exact v_thr dX9_option_38 dX9_option_41 dX9_option_42 dX9_option_45 th_X9_70_72 (by decide) rfl (Nat.le_of_ble_eq_true rfl) rfl

/-! X9 set (WT) -/
def DX9_set (N : Nat) (this : Nat) (p0 : Int32) (p1 : Int32) (p2 : Int32) (f : HF) : Option ((Int32 ⊕ String) × HF) :=
  (ck f this 8).bind fun _ =>
  (gR f this 8 0).bind fun x1 =>
  bRW (DX6_get N x1 p0 f) f fun x2 =>
  (gR f this 8 0).bind fun x4 =>
  bRW (DX6_masterOf N x4 p0 f) f fun x5 =>
  (DX2_maySetTo N x5 p1 p2 f).bind fun x7 =>
  if x7 = 0 then
    some (.inr "java/lang/IllegalArgumentException", f)
  else
    if p1 < (5 : Int32) then
      bW (DX2_change N x5 p1 p2 f) fun x9 f11 =>
      some (.inl x9, f11)
    else
      bW (DX2_change N x2 p1 p2 f) fun x12 f14 =>
      some (.inl x12, f14)

set_option maxRecDepth 20000 in
theorem kX9_set (N : Nat) (this : Nat) (p0 : Int32) (p1 : Int32) (p2 : Int32) (f : HF) {r : ((Int32 ⊕ String) × HF)} (h : DX9_set N this p0 p1 p2 f = some r) : ck f this 8 = some () := by
  unfold DX9_set at h
  obtain ⟨_, hck, _⟩ := ob_some h
  exact hck

set_option maxRecDepth 20000 in
theorem tX9_set {l : Launch} {g : GT} {sz : Option Nat} (N : Nat) (this : Nat) (p0 : Int32) (p1 : Int32) (p2 : Int32) (f : HF) {r : ((Int32 ⊕ String) × HF)} (h : DX9_set N this p0 p1 p2 f = some r) : Mt l g yX9_set cX9_set 6 (Option.some Jvm.ClassFile.FieldType.int) 10 [.ref this, .int p0, .int p1, .int p2] f sz (roI r.1 r.2 sz) := by
  unfold DX9_set at h
  obtain ⟨_, hck, h⟩ := ob_some h
  refine mt_of (by decide) (Nat.le_of_ble_eq_true rfl) (?_ : V l g (fun _ => True) (RX9, cX9_set, 6, (Option.some Jvm.ClassFile.FieldType.int), [], "set") 10 (roI r.1 r.2 sz) 0 [(0, .ref this), (1, .int p0), (2, .int p1), (3, .int p2)] [] f sz 0 0)
  refine v_aload_n dX9_set_0 rfl rfl ?_
  obtain ⟨x1, hx1, h⟩ := ob_some h
  refine v_getR dX9_set_1 fl_X9_12 hx1 ?_
  refine v_iload_n dX9_set_4 rfl rfl ?_
  rcases bRW_some h with ⟨x2, hx3, h⟩ | ⟨e9, hx3, h⟩
  rotate_left
  · cases h
    have ehx3 := tX6_get (l := l) (g := g) (sz := sz) N x1 p0 f hx3
    exact v_cVx dX9_set_5 ml_X9_60 ok_X6_get ehx3 (kX6_get N x1 p0 f hx3) rfl (by decide) rfl (rest := []) rfl (Nat.le_of_ble_eq_true rfl) rfl rfl
  have ehx3 := tX6_get (l := l) (g := g) (sz := sz) N x1 p0 f hx3
  refine v_cVR dX9_set_5 ml_X9_60 ok_X6_get ehx3 (kX6_get N x1 p0 f hx3) rfl (by decide) rfl (rest := []) rfl (Nat.le_of_ble_eq_true rfl) ?_
  refine v_astore (ls1 := [(4, .ref x2), (0, .ref this), (1, .int p0), (2, .int p1), (3, .int p2)]) dX9_set_8 (by decide) rfl ?_
  refine v_aload_n dX9_set_10 rfl rfl ?_
  obtain ⟨x4, hx4, h⟩ := ob_some h
  refine v_getR dX9_set_11 fl_X9_12 hx4 ?_
  refine v_iload_n dX9_set_14 rfl rfl ?_
  rcases bRW_some h with ⟨x5, hx6, h⟩ | ⟨e9, hx6, h⟩
  rotate_left
  · cases h
    have ehx6 := tX6_masterOf (l := l) (g := g) (sz := sz) N x4 p0 f hx6
    exact v_cVx dX9_set_15 ml_X9_87 ok_X6_masterOf ehx6 (kX6_masterOf N x4 p0 f hx6) rfl (by decide) rfl (rest := []) rfl (Nat.le_of_ble_eq_true rfl) rfl rfl
  have ehx6 := tX6_masterOf (l := l) (g := g) (sz := sz) N x4 p0 f hx6
  refine v_cVR dX9_set_15 ml_X9_87 ok_X6_masterOf ehx6 (kX6_masterOf N x4 p0 f hx6) rfl (by decide) rfl (rest := []) rfl (Nat.le_of_ble_eq_true rfl) ?_
  refine v_astore (ls1 := [(5, .ref x5), (4, .ref x2), (0, .ref this), (1, .int p0), (2, .int p1), (3, .int p2)]) dX9_set_18 (by decide) rfl ?_
  refine v_aload dX9_set_20 rfl ?_
  refine v_iload_n dX9_set_22 rfl rfl ?_
  refine v_iload_n dX9_set_23 rfl rfl ?_
  obtain ⟨x7, hx8, h⟩ := ob_some h
  have ehx8 := tX2_maySetTo (l := l) (g := g) (sz := sz) N x5 p1 p2 f hx8
  refine v_cVI dX9_set_24 ml_X9_134 ok_X2_maySetTo ehx8 (kX2_maySetTo N x5 p1 p2 f hx8) rfl (by decide) rfl (rest := []) rfl (Nat.le_of_ble_eq_true rfl) ?_
  refine v_if_ne (tgt := 38) dX9_set_27 (by decide) (fun c16 => ?_) (fun c16 => ?_)
  · replace h := in_ c16 h
    refine v_iload_n dX9_set_38 rfl rfl ?_
    refine v_iconst (v := 5) dX9_set_39 (by decide) ?_
    refine v_icmp_lt (tgt := 53) dX9_set_40 (by decide) (fun c15 => ?_) (fun c15 => ?_)
    · replace h := ip_ c15 h
      refine v_aload dX9_set_53 rfl ?_
      refine v_iload_n dX9_set_55 rfl rfl ?_
      refine v_iload_n dX9_set_56 rfl rfl ?_
      obtain ⟨x9, f11, hx10, h⟩ := bW_some h
      have ehx10 := tX2_change (l := l) (g := g) (sz := sz) N x5 p1 p2 f hx10
      refine v_cVI dX9_set_57 ml_X9_138 ok_X2_change ehx10 (kX2_change N x5 p1 p2 f hx10) rfl (by decide) rfl (rest := []) rfl (Nat.le_of_ble_eq_true rfl) ?_
      obtain rfl := Option.some.inj h
      exact v_iret dX9_set_60 rfl rfl
    · replace h := in_ c15 h
      refine v_aload dX9_set_43 rfl ?_
      refine v_iload_n dX9_set_45 rfl rfl ?_
      refine v_iload_n dX9_set_46 rfl rfl ?_
      obtain ⟨x12, f14, hx13, h⟩ := bW_some h
      have ehx13 := tX2_change (l := l) (g := g) (sz := sz) N x2 p1 p2 f hx13
      refine v_cVI dX9_set_47 ml_X9_138 ok_X2_change ehx13 (kX2_change N x2 p1 p2 f hx13) rfl (by decide) rfl (rest := []) rfl (Nat.le_of_ble_eq_true rfl) ?_
      refine v_goto (tgt := 60) dX9_set_50 (by decide) ?_
      obtain rfl := Option.some.inj h
      exact v_iret dX9_set_60 rfl rfl
  · replace h := ip_ c16 h
    obtain rfl := Option.some.inj h
    exact v_thr dX9_set_30 dX9_set_33 dX9_set_34 dX9_set_37 th_X9_70_72 (by decide) rfl (Nat.le_of_ble_eq_true rfl) rfl

/-! X9 bounds (WT) -/
def DX9_bounds (N : Nat) (this : Nat) (p0 : Int32) (p1 : Int64) (p2 : Int64) (f : HF) : Option ((Unit ⊕ String) × HF) :=
  (ck f this 8).bind fun _ =>
  (gR f this 8 0).bind fun x1 =>
  bRW (DX6_masterOf N x1 p0 f) f fun x2 =>
  (gI f x2 1 1).bind fun x4 =>
  if x4 = (5 : Int32) then
    (DX0_isBeyond N p1 f).bind fun x5 =>
    if x5 = 0 then
      (DX0_isBeyond N p2 f).bind fun x7 =>
      if x7 = 0 then
        if p1 ≤ p2 then
          (pV f x2 1 11 (.long p1)).bind fun f9 =>
          (pV f9 x2 1 12 (.long p2)).bind fun f10 =>
          some (.inl (), f10)
        else
          some (.inr "java/lang/IllegalArgumentException", f)
      else
        some (.inr "java/lang/IllegalArgumentException", f)
    else
      some (.inr "java/lang/IllegalArgumentException", f)
  else
    some (.inr "java/lang/IllegalArgumentException", f)

set_option maxRecDepth 20000 in
theorem kX9_bounds (N : Nat) (this : Nat) (p0 : Int32) (p1 : Int64) (p2 : Int64) (f : HF) {r : ((Unit ⊕ String) × HF)} (h : DX9_bounds N this p0 p1 p2 f = some r) : ck f this 8 = some () := by
  unfold DX9_bounds at h
  obtain ⟨_, hck, _⟩ := ob_some h
  exact hck

set_option maxRecDepth 20000 in
theorem tX9_bounds {l : Launch} {g : GT} {sz : Option Nat} (N : Nat) (this : Nat) (p0 : Int32) (p1 : Int64) (p2 : Int64) (f : HF) {r : ((Unit ⊕ String) × HF)} (h : DX9_bounds N this p0 p1 p2 f = some r) : Mt l g yX9_bounds cX9_bounds 7 (Option.none : Option Jvm.ClassFile.FieldType) 10 [.ref this, .int p0, .long p1, .long p2] f sz (roU r.1 r.2 sz) := by
  unfold DX9_bounds at h
  obtain ⟨_, hck, h⟩ := ob_some h
  refine mt_of (by decide) (Nat.le_of_ble_eq_true rfl) (?_ : V l g (fun _ => True) (RX9, cX9_bounds, 7, (Option.none : Option Jvm.ClassFile.FieldType), [], "bounds") 10 (roU r.1 r.2 sz) 0 [(0, .ref this), (1, .int p0), (2, .long p1), (4, .long p2)] [] f sz 0 0)
  refine v_aload_n dX9_bounds_0 rfl rfl ?_
  obtain ⟨x1, hx1, h⟩ := ob_some h
  refine v_getR dX9_bounds_1 fl_X9_12 hx1 ?_
  refine v_iload_n dX9_bounds_4 rfl rfl ?_
  rcases bRW_some h with ⟨x2, hx3, h⟩ | ⟨e9, hx3, h⟩
  rotate_left
  · cases h
    have ehx3 := tX6_masterOf (l := l) (g := g) (sz := sz) N x1 p0 f hx3
    exact v_cVx dX9_bounds_5 ml_X9_87 ok_X6_masterOf ehx3 (kX6_masterOf N x1 p0 f hx3) rfl (by decide) rfl (rest := []) rfl (Nat.le_of_ble_eq_true rfl) rfl rfl
  have ehx3 := tX6_masterOf (l := l) (g := g) (sz := sz) N x1 p0 f hx3
  refine v_cVR dX9_bounds_5 ml_X9_87 ok_X6_masterOf ehx3 (kX6_masterOf N x1 p0 f hx3) rfl (by decide) rfl (rest := []) rfl (Nat.le_of_ble_eq_true rfl) ?_
  refine v_astore (ls1 := [(6, .ref x2), (0, .ref this), (1, .int p0), (2, .long p1), (4, .long p2)]) dX9_bounds_8 (by decide) rfl ?_
  refine v_aload dX9_bounds_10 rfl ?_
  obtain ⟨x4, hx4, h⟩ := ob_some h
  refine v_getI dX9_bounds_12 fl_X9_73 hx4 ?_
  refine v_iconst (v := 5) dX9_bounds_15 (by decide) ?_
  refine v_icmp_ne (tgt := 41) dX9_bounds_16 (by decide) (fun c14 => ?_) (fun c14 => ?_)
  · replace h := in_ c14 h
    obtain rfl := Option.some.inj h
    exact v_thr dX9_bounds_41 dX9_bounds_44 dX9_bounds_45 dX9_bounds_48 th_X9_70_72 (by decide) rfl (Nat.le_of_ble_eq_true rfl) rfl
  · replace h := ip_ c14 h
    refine v_lload_n dX9_bounds_19 rfl rfl ?_
    obtain ⟨x5, hx6, h⟩ := ob_some h
    have ehx6 := tX0_isBeyond (l := l) (g := g) (sz := sz) N p1 f hx6
    refine v_cSI dX9_bounds_20 ml_X9_141 ok_X0_isBeyond ehx6 (by decide) rfl (rest := []) rfl (Nat.le_of_ble_eq_true rfl) ?_
    refine v_if_ne (tgt := 41) dX9_bounds_23 (by decide) (fun c13 => ?_) (fun c13 => ?_)
    · replace h := in_ c13 h
      obtain rfl := Option.some.inj h
      exact v_thr dX9_bounds_41 dX9_bounds_44 dX9_bounds_45 dX9_bounds_48 th_X9_70_72 (by decide) rfl (Nat.le_of_ble_eq_true rfl) rfl
    · replace h := ip_ c13 h
      refine v_lload dX9_bounds_26 rfl ?_
      obtain ⟨x7, hx8, h⟩ := ob_some h
      have ehx8 := tX0_isBeyond (l := l) (g := g) (sz := sz) N p2 f hx8
      refine v_cSI dX9_bounds_28 ml_X9_141 ok_X0_isBeyond ehx8 (by decide) rfl (rest := []) rfl (Nat.le_of_ble_eq_true rfl) ?_
      refine v_if_ne (tgt := 41) dX9_bounds_31 (by decide) (fun c12 => ?_) (fun c12 => ?_)
      · replace h := in_ c12 h
        obtain rfl := Option.some.inj h
        exact v_thr dX9_bounds_41 dX9_bounds_44 dX9_bounds_45 dX9_bounds_48 th_X9_70_72 (by decide) rfl (Nat.le_of_ble_eq_true rfl) rfl
      · replace h := ip_ c12 h
        refine v_lload_n dX9_bounds_34 rfl rfl ?_
        refine v_lload dX9_bounds_35 rfl ?_
        refine v_lcmp_le (tgt := 49) dX9_bounds_37 dX9_bounds_38 (by decide) (fun c11 => ?_) (fun c11 => ?_)
        · replace h := ip_ c11 h
          refine v_aload dX9_bounds_49 rfl ?_
          refine v_lload_n dX9_bounds_51 rfl rfl ?_
          obtain ⟨f9, hf9, h⟩ := ob_some h
          refine v_pL dX9_bounds_52 fp_X9_147 hf9 ?_
          refine v_aload dX9_bounds_55 rfl ?_
          refine v_lload dX9_bounds_57 rfl ?_
          obtain ⟨f10, hf10, h⟩ := ob_some h
          refine v_pL dX9_bounds_59 fp_X9_151 hf10 ?_
          obtain rfl := Option.some.inj h
          exact v_vret dX9_bounds_62 rfl rfl
        · replace h := in_ c11 h
          obtain rfl := Option.some.inj h
          exact v_thr dX9_bounds_41 dX9_bounds_44 dX9_bounds_45 dX9_bounds_48 th_X9_70_72 (by decide) rfl (Nat.le_of_ble_eq_true rfl) rfl

/-! X9 formula (WT) -/
def DX9_formula_55 (N : Nat)  (v2 : Int32) (v3 : Int32) (v4 : Int32) (v5 : Nat) (s0 : Int32) (f : HF) : Option ((Int32 ⊕ String) × HF) :=
    (pV f v5 1 13 (.int v2)).bind fun f9 =>
    (pV f9 v5 1 14 (.int v3)).bind fun f10 =>
    (pV f10 v5 1 15 (.int v4)).bind fun f11 =>
    some (.inl s0, f11)

def DX9_formula (N : Nat) (this : Nat) (p0 : Int32) (p1 : Int32) (p2 : Int32) (p3 : Int32) (f : HF) : Option ((Int32 ⊕ String) × HF) :=
  (ck f this 8).bind fun _ =>
  (gR f this 8 0).bind fun x1 =>
  bRW (DX6_masterOf N x1 p0 f) f fun x2 =>
  (gR f this 8 2).bind fun x4 =>
  bRW (DX1_mayWorkWith N x4 p1 p2 p3 f) f fun x5 =>
  if x5 = 0 then
    some (.inr "java/lang/IllegalArgumentException", f)
  else
    (gI f x2 1 1).bind fun x7 =>
    if x7 = (5 : Int32) then
      (gI f x2 1 13).bind fun x8 =>
      if x8 = (-1 : Int32) then
        DX9_formula_55 N p1 p2 p3 x2 (0 : Int32) f
      else
        DX9_formula_55 N p1 p2 p3 x2 (1 : Int32) f
    else
      some (.inr "java/lang/IllegalArgumentException", f)

set_option maxRecDepth 20000 in
theorem tX9_formula_55 {l : Launch} {g : GT} {sz : Option Nat} (N : Nat)  {r : ((Int32 ⊕ String) × HF)} : ∀ (v2 : Int32) (v3 : Int32) (v4 : Int32) (v5 : Nat) (s0 : Int32) (f : HF), DX9_formula_55 N v2 v3 v4 v5 s0 f = some r → V l g (fun _ => True) (RX9, cX9_formula, 7, (Option.some Jvm.ClassFile.FieldType.int), [], "formula") 10 (roI r.1 r.2 sz) 55 [(2, .int v2), (3, .int v3), (4, .int v4), (5, .ref v5)] [.int s0] f sz 0 0 := by
  intro v2 v3 v4 v5 s0 f h
  unfold DX9_formula_55 at h
  refine v_istore (ls1 := [(6, .int s0), (2, .int v2), (3, .int v3), (4, .int v4), (5, .ref v5)]) dX9_formula_55 (by decide) rfl ?_
  refine v_aload dX9_formula_57 rfl ?_
  refine v_iload_n dX9_formula_59 rfl rfl ?_
  obtain ⟨f9, hf9, h⟩ := ob_some h
  refine v_pI dX9_formula_60 fp_X9_158 hf9 ?_
  refine v_aload dX9_formula_63 rfl ?_
  refine v_iload_n dX9_formula_65 rfl rfl ?_
  obtain ⟨f10, hf10, h⟩ := ob_some h
  refine v_pI dX9_formula_66 fp_X9_161 hf10 ?_
  refine v_aload dX9_formula_69 rfl ?_
  refine v_iload dX9_formula_71 rfl ?_
  obtain ⟨f11, hf11, h⟩ := ob_some h
  refine v_pI dX9_formula_73 fp_X9_164 hf11 ?_
  refine v_iload dX9_formula_76 rfl ?_
  obtain rfl := Option.some.inj h
  exact v_iret dX9_formula_78 rfl rfl

set_option maxRecDepth 20000 in
theorem kX9_formula (N : Nat) (this : Nat) (p0 : Int32) (p1 : Int32) (p2 : Int32) (p3 : Int32) (f : HF) {r : ((Int32 ⊕ String) × HF)} (h : DX9_formula N this p0 p1 p2 p3 f = some r) : ck f this 8 = some () := by
  unfold DX9_formula at h
  obtain ⟨_, hck, _⟩ := ob_some h
  exact hck

set_option maxRecDepth 20000 in
theorem tX9_formula {l : Launch} {g : GT} {sz : Option Nat} (N : Nat) (this : Nat) (p0 : Int32) (p1 : Int32) (p2 : Int32) (p3 : Int32) (f : HF) {r : ((Int32 ⊕ String) × HF)} (h : DX9_formula N this p0 p1 p2 p3 f = some r) : Mt l g yX9_formula cX9_formula 7 (Option.some Jvm.ClassFile.FieldType.int) 10 [.ref this, .int p0, .int p1, .int p2, .int p3] f sz (roI r.1 r.2 sz) := by
  unfold DX9_formula at h
  obtain ⟨_, hck, h⟩ := ob_some h
  refine mt_of (by decide) (Nat.le_of_ble_eq_true rfl) (?_ : V l g (fun _ => True) (RX9, cX9_formula, 7, (Option.some Jvm.ClassFile.FieldType.int), [], "formula") 10 (roI r.1 r.2 sz) 0 [(0, .ref this), (1, .int p0), (2, .int p1), (3, .int p2), (4, .int p3)] [] f sz 0 0)
  refine v_aload_n dX9_formula_0 rfl rfl ?_
  obtain ⟨x1, hx1, h⟩ := ob_some h
  refine v_getR dX9_formula_1 fl_X9_12 hx1 ?_
  refine v_iload_n dX9_formula_4 rfl rfl ?_
  rcases bRW_some h with ⟨x2, hx3, h⟩ | ⟨e9, hx3, h⟩
  rotate_left
  · cases h
    have ehx3 := tX6_masterOf (l := l) (g := g) (sz := sz) N x1 p0 f hx3
    exact v_cVx dX9_formula_5 ml_X9_87 ok_X6_masterOf ehx3 (kX6_masterOf N x1 p0 f hx3) rfl (by decide) rfl (rest := []) rfl (Nat.le_of_ble_eq_true rfl) rfl rfl
  have ehx3 := tX6_masterOf (l := l) (g := g) (sz := sz) N x1 p0 f hx3
  refine v_cVR dX9_formula_5 ml_X9_87 ok_X6_masterOf ehx3 (kX6_masterOf N x1 p0 f hx3) rfl (by decide) rfl (rest := []) rfl (Nat.le_of_ble_eq_true rfl) ?_
  refine v_astore (ls1 := [(5, .ref x2), (0, .ref this), (1, .int p0), (2, .int p1), (3, .int p2), (4, .int p3)]) dX9_formula_8 (by decide) rfl ?_
  refine v_aload_n dX9_formula_10 rfl rfl ?_
  obtain ⟨x4, hx4, h⟩ := ob_some h
  refine v_getR dX9_formula_11 fl_X9_30 hx4 ?_
  refine v_iload_n dX9_formula_14 rfl rfl ?_
  refine v_iload_n dX9_formula_15 rfl rfl ?_
  refine v_iload dX9_formula_16 rfl ?_
  rcases bRW_some h with ⟨x5, hx6, h⟩ | ⟨e9, hx6, h⟩
  rotate_left
  · cases h
    have ehx6 := tX1_mayWorkWith (l := l) (g := g) (sz := sz) N x4 p1 p2 p3 f hx6
    exact v_cVx dX9_formula_18 ml_X9_154 ok_X1_mayWorkWith ehx6 (kX1_mayWorkWith N x4 p1 p2 p3 f hx6) rfl (by decide) rfl (rest := []) rfl (Nat.le_of_ble_eq_true rfl) rfl rfl
  have ehx6 := tX1_mayWorkWith (l := l) (g := g) (sz := sz) N x4 p1 p2 p3 f hx6
  refine v_cVI dX9_formula_18 ml_X9_154 ok_X1_mayWorkWith ehx6 (kX1_mayWorkWith N x4 p1 p2 p3 f hx6) rfl (by decide) rfl (rest := []) rfl (Nat.le_of_ble_eq_true rfl) ?_
  refine v_if_eq (tgt := 33) dX9_formula_21 (by decide) (fun c14 => ?_) (fun c14 => ?_)
  · replace h := ip_ c14 h
    obtain rfl := Option.some.inj h
    exact v_thr dX9_formula_33 dX9_formula_36 dX9_formula_37 dX9_formula_40 th_X9_70_72 (by decide) rfl (Nat.le_of_ble_eq_true rfl) rfl
  · replace h := in_ c14 h
    refine v_aload dX9_formula_24 rfl ?_
    obtain ⟨x7, hx7, h⟩ := ob_some h
    refine v_getI dX9_formula_26 fl_X9_73 hx7 ?_
    refine v_iconst (v := 5) dX9_formula_29 (by decide) ?_
    refine v_icmp_eq (tgt := 41) dX9_formula_30 (by decide) (fun c13 => ?_) (fun c13 => ?_)
    · replace h := ip_ c13 h
      refine v_aload dX9_formula_41 rfl ?_
      obtain ⟨x8, hx8, h⟩ := ob_some h
      refine v_getI dX9_formula_43 fl_X9_158 hx8 ?_
      refine v_iconst (v := -1) dX9_formula_46 (by decide) ?_
      refine v_icmp_ne (tgt := 54) dX9_formula_47 (by decide) (fun c12 => ?_) (fun c12 => ?_)
      · replace h := in_ c12 h
        refine v_iconst (v := 1) dX9_formula_54 (by decide) ?_
        exact v_sub (vs_c rfl (vs_c rfl (vs_c rfl (vs_c rfl vs_n)))) (tX9_formula_55 N p1 p2 p3 x2 (1 : Int32) f h)
      · replace h := ip_ c12 h
        refine v_iconst (v := 0) dX9_formula_50 (by decide) ?_
        refine v_goto (tgt := 55) dX9_formula_51 (by decide) ?_
        exact v_sub (vs_c rfl (vs_c rfl (vs_c rfl (vs_c rfl vs_n)))) (tX9_formula_55 N p1 p2 p3 x2 (0 : Int32) f h)
    · replace h := in_ c13 h
      obtain rfl := Option.some.inj h
      exact v_thr dX9_formula_33 dX9_formula_36 dX9_formula_37 dX9_formula_40 th_X9_70_72 (by decide) rfl (Nat.le_of_ble_eq_true rfl) rfl

/-! X9 calculate (WT) -/
def DX9_calculate (N : Nat) (this : Nat) (f : HF) : Option ((Int32 ⊕ String) × HF) :=
  (ck f this 8).bind fun _ =>
  (gR f this 8 2).bind fun x1 =>
  bWW (DX1_workOutAll N x1 f) fun x2 f4 =>
  some (.inl x2, f4)

set_option maxRecDepth 20000 in
theorem kX9_calculate (N : Nat) (this : Nat) (f : HF) {r : ((Int32 ⊕ String) × HF)} (h : DX9_calculate N this f = some r) : ck f this 8 = some () := by
  unfold DX9_calculate at h
  obtain ⟨_, hck, _⟩ := ob_some h
  exact hck

set_option maxRecDepth 20000 in
theorem tX9_calculate {l : Launch} {g : GT} {sz : Option Nat} (N : Nat) (this : Nat) (f : HF) {r : ((Int32 ⊕ String) × HF)} (h : DX9_calculate N this f = some r) : Mt l g yX9_calculate cX9_calculate 1 (Option.some Jvm.ClassFile.FieldType.int) 14 [.ref this] f sz (roI r.1 r.2 sz) := by
  unfold DX9_calculate at h
  obtain ⟨_, hck, h⟩ := ob_some h
  refine mt_of (by decide) (Nat.le_of_ble_eq_true rfl) (?_ : V l g (fun _ => True) (RX9, cX9_calculate, 1, (Option.some Jvm.ClassFile.FieldType.int), [], "calculate") 14 (roI r.1 r.2 sz) 0 [(0, .ref this)] [] f sz 0 0)
  refine v_aload_n dX9_calculate_0 rfl rfl ?_
  obtain ⟨x1, hx1, h⟩ := ob_some h
  refine v_getR dX9_calculate_1 fl_X9_30 hx1 ?_
  rcases bWW_some h with ⟨x2, f4, hx3, h⟩ | ⟨e9, f4, hx3, h⟩
  rotate_left
  · cases h
    have ehx3 := tX1_workOutAll (l := l) (g := g) (sz := sz) N x1 f hx3
    exact v_cVx dX9_calculate_4 ml_X9_167 ok_X1_workOutAll ehx3 (kX1_workOutAll N x1 f hx3) rfl (by decide) rfl (rest := []) rfl (Nat.le_of_ble_eq_true rfl) rfl rfl
  have ehx3 := tX1_workOutAll (l := l) (g := g) (sz := sz) N x1 f hx3
  refine v_cVI dX9_calculate_4 ml_X9_167 ok_X1_workOutAll ehx3 (kX1_workOutAll N x1 f hx3) rfl (by decide) rfl (rest := []) rfl (Nat.le_of_ble_eq_true rfl) ?_
  obtain rfl := Option.some.inj h
  exact v_iret dX9_calculate_7 rfl rfl

/-! X9 failed (RT) -/
def DX9_failed (N : Nat) (this : Nat) (p0 : Int32) (f : HF) : Option (Int32 ⊕ String) :=
  (ck f this 8).bind fun _ =>
  if p0 = (-1 : Int32) then
    (gR f this 8 2).bind fun x10 =>
    (gR f x10 0 4).bind fun x11 =>
    (DX5_count N x11 f).bind fun x12 =>
    some (.inl x12)
  else
    (gR f this 8 2).bind fun x1 =>
    (gR f x1 0 4).bind fun x2 =>
    (DX5_has N x2 p0 f).bind fun x3 =>
    if x3 = 0 then
      some (.inr "java/lang/IndexOutOfBoundsException")
    else
      (gR f this 8 2).bind fun x5 =>
      (gR f x5 0 4).bind fun x6 =>
      (DX5_get N x6 p0 f).bind fun x7 =>
      some (.inl x7)

set_option maxRecDepth 20000 in
theorem kX9_failed (N : Nat) (this : Nat) (p0 : Int32) (f : HF) {r : (Int32 ⊕ String)} (h : DX9_failed N this p0 f = some r) : ck f this 8 = some () := by
  unfold DX9_failed at h
  obtain ⟨_, hck, _⟩ := ob_some h
  exact hck

set_option maxRecDepth 20000 in
theorem tX9_failed {l : Launch} {g : GT} {sz : Option Nat} (N : Nat) (this : Nat) (p0 : Int32) (f : HF) {r : (Int32 ⊕ String)} (h : DX9_failed N this p0 f = some r) : Mt l g yX9_failed cX9_failed 2 (Option.some Jvm.ClassFile.FieldType.int) 8 [.ref this, .int p0] f sz (roI r f sz) := by
  unfold DX9_failed at h
  obtain ⟨_, hck, h⟩ := ob_some h
  refine mt_of (by decide) (Nat.le_of_ble_eq_true rfl) (?_ : V l g (fun _ => True) (RX9, cX9_failed, 2, (Option.some Jvm.ClassFile.FieldType.int), [], "failed") 8 (roI r f sz) 0 [(0, .ref this), (1, .int p0)] [] f sz 0 0)
  refine v_iload_n dX9_failed_0 rfl rfl ?_
  refine v_iconst (v := -1) dX9_failed_1 (by decide) ?_
  refine v_icmp_ne (tgt := 16) dX9_failed_2 (by decide) (fun c14 => ?_) (fun c14 => ?_)
  · replace h := in_ c14 h
    refine v_aload_n dX9_failed_16 rfl rfl ?_
    obtain ⟨x1, hx1, h⟩ := ob_some h
    refine v_getR dX9_failed_17 fl_X9_30 hx1 ?_
    obtain ⟨x2, hx2, h⟩ := ob_some h
    refine v_getR dX9_failed_20 fl_X9_170 hx2 ?_
    refine v_iload_n dX9_failed_23 rfl rfl ?_
    obtain ⟨x3, hx4, h⟩ := ob_some h
    have ehx4 := tX5_has (l := l) (g := g) (sz := sz) N x2 p0 f hx4
    refine v_cVI dX9_failed_24 ml_X9_173 ok_X5_has ehx4 (kX5_has N x2 p0 f hx4) rfl (by decide) rfl (rest := []) rfl (Nat.le_of_ble_eq_true rfl) ?_
    refine v_if_ne (tgt := 38) dX9_failed_27 (by decide) (fun c9 => ?_) (fun c9 => ?_)
    · replace h := in_ c9 h
      refine v_aload_n dX9_failed_38 rfl rfl ?_
      obtain ⟨x5, hx5, h⟩ := ob_some h
      refine v_getR dX9_failed_39 fl_X9_30 hx5 ?_
      obtain ⟨x6, hx6, h⟩ := ob_some h
      refine v_getR dX9_failed_42 fl_X9_170 hx6 ?_
      refine v_iload_n dX9_failed_45 rfl rfl ?_
      obtain ⟨x7, hx8, h⟩ := ob_some h
      have ehx8 := tX5_get (l := l) (g := g) (sz := sz) N x6 p0 f hx8
      refine v_cVI dX9_failed_46 ml_X9_179 ok_X5_get ehx8 (kX5_get N x6 p0 f hx8) rfl (by decide) rfl (rest := []) rfl (Nat.le_of_ble_eq_true rfl) ?_
      obtain rfl := Option.some.inj h
      exact v_iret dX9_failed_49 rfl rfl
    · replace h := ip_ c9 h
      obtain rfl := Option.some.inj h
      exact v_thr dX9_failed_30 dX9_failed_33 dX9_failed_34 dX9_failed_37 th_X9_176_178 (by decide) rfl (Nat.le_of_ble_eq_true rfl) rfl
  · replace h := ip_ c14 h
    refine v_aload_n dX9_failed_5 rfl rfl ?_
    obtain ⟨x10, hx10, h⟩ := ob_some h
    refine v_getR dX9_failed_6 fl_X9_30 hx10 ?_
    obtain ⟨x11, hx11, h⟩ := ob_some h
    refine v_getR dX9_failed_9 fl_X9_170 hx11 ?_
    obtain ⟨x12, hx13, h⟩ := ob_some h
    have ehx13 := tX5_count (l := l) (g := g) (sz := sz) N x11 f hx13
    refine v_cVI dX9_failed_12 ml_X9_130 ok_X5_count ehx13 (kX5_count N x11 f hx13) rfl (by decide) rfl (rest := []) rfl (Nat.le_of_ble_eq_true rfl) ?_
    obtain rfl := Option.some.inj h
    exact v_iret dX9_failed_15 rfl rfl

/-! X9 fails (WT) -/
def DX9_fails_37 (N : Nat)  (v2 : Int32) (v3 : Nat) (s0 : Int32) (f : HF) : Option ((Int32 ⊕ String) × HF) :=
    if v2 = 0 ∨ v2 = 1 then
    (pV f v3 1 16 (.int v2)).bind fun f6 =>
    some (.inl s0, f6)
    else none

def DX9_fails (N : Nat) (this : Nat) (p0 : Int32) (p1 : Int32) (f : HF) : Option ((Int32 ⊕ String) × HF) :=
  (ck f this 8).bind fun _ =>
  (gR f this 8 0).bind fun x1 =>
  bRW (DX6_masterOf N x1 p0 f) f fun x2 =>
  (gI f x2 1 1).bind fun x4 =>
  if x4 = (5 : Int32) then
    (gI f x2 1 16).bind fun x5 =>
    if x5 = 0 then
      DX9_fails_37 N p1 x2 (0 : Int32) f
    else
      DX9_fails_37 N p1 x2 (1 : Int32) f
  else
    some (.inr "java/lang/IllegalArgumentException", f)

set_option maxRecDepth 20000 in
theorem tX9_fails_37 {l : Launch} {g : GT} {sz : Option Nat} (N : Nat)  {r : ((Int32 ⊕ String) × HF)} : ∀ (v2 : Int32) (v3 : Nat) (s0 : Int32) (f : HF), DX9_fails_37 N v2 v3 s0 f = some r → V l g (fun _ => True) (RX9, cX9_fails, 5, (Option.some Jvm.ClassFile.FieldType.int), [], "fails") 10 (roI r.1 r.2 sz) 37 [(2, .int v2), (3, .ref v3)] [.int s0] f sz 0 0 := by
  intro v2 v3 s0 f h
  unfold DX9_fails_37 at h
  refine v_istore (ls1 := [(4, .int s0), (2, .int v2), (3, .ref v3)]) dX9_fails_37 (by decide) rfl ?_
  refine v_aload_n dX9_fails_39 rfl rfl ?_
  refine v_iload_n dX9_fails_40 rfl rfl ?_
  obtain ⟨hB, h⟩ := if_some h
  obtain ⟨f6, hf6, h⟩ := ob_some h
  refine v_pZ dX9_fails_41 fp_X9_181 hB hf6 ?_
  refine v_iload dX9_fails_44 rfl ?_
  obtain rfl := Option.some.inj h
  exact v_iret dX9_fails_46 rfl rfl

set_option maxRecDepth 20000 in
theorem kX9_fails (N : Nat) (this : Nat) (p0 : Int32) (p1 : Int32) (f : HF) {r : ((Int32 ⊕ String) × HF)} (h : DX9_fails N this p0 p1 f = some r) : ck f this 8 = some () := by
  unfold DX9_fails at h
  obtain ⟨_, hck, _⟩ := ob_some h
  exact hck

set_option maxRecDepth 20000 in
theorem tX9_fails {l : Launch} {g : GT} {sz : Option Nat} (N : Nat) (this : Nat) (p0 : Int32) (p1 : Int32) (f : HF) {r : ((Int32 ⊕ String) × HF)} (h : DX9_fails N this p0 p1 f = some r) : Mt l g yX9_fails cX9_fails 5 (Option.some Jvm.ClassFile.FieldType.int) 10 [.ref this, .int p0, .int p1] f sz (roI r.1 r.2 sz) := by
  unfold DX9_fails at h
  obtain ⟨_, hck, h⟩ := ob_some h
  refine mt_of (by decide) (Nat.le_of_ble_eq_true rfl) (?_ : V l g (fun _ => True) (RX9, cX9_fails, 5, (Option.some Jvm.ClassFile.FieldType.int), [], "fails") 10 (roI r.1 r.2 sz) 0 [(0, .ref this), (1, .int p0), (2, .int p1)] [] f sz 0 0)
  refine v_aload_n dX9_fails_0 rfl rfl ?_
  obtain ⟨x1, hx1, h⟩ := ob_some h
  refine v_getR dX9_fails_1 fl_X9_12 hx1 ?_
  refine v_iload_n dX9_fails_4 rfl rfl ?_
  rcases bRW_some h with ⟨x2, hx3, h⟩ | ⟨e9, hx3, h⟩
  rotate_left
  · cases h
    have ehx3 := tX6_masterOf (l := l) (g := g) (sz := sz) N x1 p0 f hx3
    exact v_cVx dX9_fails_5 ml_X9_87 ok_X6_masterOf ehx3 (kX6_masterOf N x1 p0 f hx3) rfl (by decide) rfl (rest := []) rfl (Nat.le_of_ble_eq_true rfl) rfl rfl
  have ehx3 := tX6_masterOf (l := l) (g := g) (sz := sz) N x1 p0 f hx3
  refine v_cVR dX9_fails_5 ml_X9_87 ok_X6_masterOf ehx3 (kX6_masterOf N x1 p0 f hx3) rfl (by decide) rfl (rest := []) rfl (Nat.le_of_ble_eq_true rfl) ?_
  refine v_astore_n (ls1 := [(3, .ref x2), (0, .ref this), (1, .int p0), (2, .int p1)]) dX9_fails_8 rfl (by decide) rfl ?_
  refine v_aload_n dX9_fails_9 rfl rfl ?_
  obtain ⟨x4, hx4, h⟩ := ob_some h
  refine v_getI dX9_fails_10 fl_X9_73 hx4 ?_
  refine v_iconst (v := 5) dX9_fails_13 (by decide) ?_
  refine v_icmp_eq (tgt := 25) dX9_fails_14 (by decide) (fun c8 => ?_) (fun c8 => ?_)
  · replace h := ip_ c8 h
    refine v_aload_n dX9_fails_25 rfl rfl ?_
    obtain ⟨x5, hx5, h⟩ := ob_some h
    refine v_getI dX9_fails_26 fl_X9_181 hx5 ?_
    refine v_if_eq (tgt := 36) dX9_fails_29 (by decide) (fun c7 => ?_) (fun c7 => ?_)
    · replace h := ip_ c7 h
      refine v_iconst (v := 0) dX9_fails_36 (by decide) ?_
      exact v_sub (vs_c rfl (vs_c rfl vs_n)) (tX9_fails_37 N p1 x2 (0 : Int32) f h)
    · replace h := in_ c7 h
      refine v_iconst (v := 1) dX9_fails_32 (by decide) ?_
      refine v_goto (tgt := 37) dX9_fails_33 (by decide) ?_
      exact v_sub (vs_c rfl (vs_c rfl vs_n)) (tX9_fails_37 N p1 x2 (1 : Int32) f h)
  · replace h := in_ c8 h
    obtain rfl := Option.some.inj h
    exact v_thr dX9_fails_17 dX9_fails_20 dX9_fails_21 dX9_fails_24 th_X9_70_72 (by decide) rfl (Nat.le_of_ble_eq_true rfl) rfl

/-! X9 shown (WT) -/
def DX9_shown (N : Nat) (this : Nat) (p0 : Int32) (p1 : Int32) (f : HF) : Option ((Int32 ⊕ String) × HF) :=
  (ck f this 8).bind fun _ =>
  (gR f this 8 1).bind fun x1 =>
  (gR f this 8 0).bind fun x2 =>
  bRW (DX6_masterOf N x2 p0 f) f fun x3 =>
  bW (DX7_show N x1 x3 f) fun x5 f7 =>
  (DX5_get N x5 p1 f7).bind fun x8 =>
  some (.inl x8, f7)

set_option maxRecDepth 20000 in
theorem kX9_shown (N : Nat) (this : Nat) (p0 : Int32) (p1 : Int32) (f : HF) {r : ((Int32 ⊕ String) × HF)} (h : DX9_shown N this p0 p1 f = some r) : ck f this 8 = some () := by
  unfold DX9_shown at h
  obtain ⟨_, hck, _⟩ := ob_some h
  exact hck

set_option maxRecDepth 20000 in
theorem tX9_shown {l : Launch} {g : GT} {sz : Option Nat} (N : Nat) (this : Nat) (p0 : Int32) (p1 : Int32) (f : HF) {r : ((Int32 ⊕ String) × HF)} (h : DX9_shown N this p0 p1 f = some r) : Mt l g yX9_shown cX9_shown 3 (Option.some Jvm.ClassFile.FieldType.int) 10 [.ref this, .int p0, .int p1] f sz (roI r.1 r.2 sz) := by
  unfold DX9_shown at h
  obtain ⟨_, hck, h⟩ := ob_some h
  refine mt_of (by decide) (Nat.le_of_ble_eq_true rfl) (?_ : V l g (fun _ => True) (RX9, cX9_shown, 3, (Option.some Jvm.ClassFile.FieldType.int), [], "shown") 10 (roI r.1 r.2 sz) 0 [(0, .ref this), (1, .int p0), (2, .int p1)] [] f sz 0 0)
  refine v_aload_n dX9_shown_0 rfl rfl ?_
  obtain ⟨x1, hx1, h⟩ := ob_some h
  refine v_getR dX9_shown_1 fl_X9_21 hx1 ?_
  refine v_aload_n dX9_shown_4 rfl rfl ?_
  obtain ⟨x2, hx2, h⟩ := ob_some h
  refine v_getR dX9_shown_5 fl_X9_12 hx2 ?_
  refine v_iload_n dX9_shown_8 rfl rfl ?_
  rcases bRW_some h with ⟨x3, hx4, h⟩ | ⟨e9, hx4, h⟩
  rotate_left
  · cases h
    have ehx4 := tX6_masterOf (l := l) (g := g) (sz := sz) N x2 p0 f hx4
    exact v_cVx dX9_shown_9 ml_X9_87 ok_X6_masterOf ehx4 (kX6_masterOf N x2 p0 f hx4) rfl (by decide) rfl (rest := [.ref x1]) rfl (Nat.le_of_ble_eq_true rfl) rfl rfl
  have ehx4 := tX6_masterOf (l := l) (g := g) (sz := sz) N x2 p0 f hx4
  refine v_cVR dX9_shown_9 ml_X9_87 ok_X6_masterOf ehx4 (kX6_masterOf N x2 p0 f hx4) rfl (by decide) rfl (rest := [.ref x1]) rfl (Nat.le_of_ble_eq_true rfl) ?_
  obtain ⟨x5, f7, hx6, h⟩ := bW_some h
  have ehx6 := tX7_show (l := l) (g := g) (sz := sz) N x1 x3 f hx6
  refine v_cVR dX9_shown_12 ml_X9_184 ok_X7_show ehx6 (kX7_show N x1 x3 f hx6) rfl (by decide) rfl (rest := []) rfl (Nat.le_of_ble_eq_true rfl) ?_
  refine v_iload_n dX9_shown_15 rfl rfl ?_
  obtain ⟨x8, hx9, h⟩ := ob_some h
  have ehx9 := tX5_get (l := l) (g := g) (sz := sz) N x5 p1 f7 hx9
  refine v_cVI dX9_shown_16 ml_X9_179 ok_X5_get ehx9 (kX5_get N x5 p1 f7 hx9) rfl (by decide) rfl (rest := []) rfl (Nat.le_of_ble_eq_true rfl) ?_
  obtain rfl := Option.some.inj h
  exact v_iret dX9_shown_19 rfl rfl

/-! X9 masterWithValue (RT) -/
def DX9_masterWithValue (N : Nat) (this : Nat) (p0 : Int32) (f : HF) : Option (Nat ⊕ String) :=
  (ck f this 8).bind fun _ =>
  (gR f this 8 0).bind fun x1 =>
  bRT (DX6_masterOf N x1 p0 f) fun x2 =>
  (gI f x2 1 1).bind fun x4 =>
  if x4 = 0 then
    some (.inr "java/lang/IllegalArgumentException")
  else
    some (.inl x2)

set_option maxRecDepth 20000 in
theorem kX9_masterWithValue (N : Nat) (this : Nat) (p0 : Int32) (f : HF) {r : (Nat ⊕ String)} (h : DX9_masterWithValue N this p0 f = some r) : ck f this 8 = some () := by
  unfold DX9_masterWithValue at h
  obtain ⟨_, hck, _⟩ := ob_some h
  exact hck

set_option maxRecDepth 20000 in
theorem tX9_masterWithValue {l : Launch} {g : GT} {sz : Option Nat} (N : Nat) (this : Nat) (p0 : Int32) (f : HF) {r : (Nat ⊕ String)} (h : DX9_masterWithValue N this p0 f = some r) : Mt l g yX9_masterWithValue cX9_masterWithValue 3 (Option.some (Jvm.ClassFile.FieldType.object "FormFields$Field")) 10 [.ref this, .int p0] f sz (roR r f sz) := by
  unfold DX9_masterWithValue at h
  obtain ⟨_, hck, h⟩ := ob_some h
  refine mt_of (by decide) (Nat.le_of_ble_eq_true rfl) (?_ : V l g (fun _ => True) (RX9, cX9_masterWithValue, 3, (Option.some (Jvm.ClassFile.FieldType.object "FormFields$Field")), [], "masterWithValue") 10 (roR r f sz) 0 [(0, .ref this), (1, .int p0)] [] f sz 0 0)
  refine v_aload_n dX9_masterWithValue_0 rfl rfl ?_
  obtain ⟨x1, hx1, h⟩ := ob_some h
  refine v_getR dX9_masterWithValue_1 fl_X9_12 hx1 ?_
  refine v_iload_n dX9_masterWithValue_4 rfl rfl ?_
  rcases bRT_some h with ⟨x2, hx3, h⟩ | ⟨e9, hx3, h⟩
  rotate_left
  · cases h
    have ehx3 := tX6_masterOf (l := l) (g := g) (sz := sz) N x1 p0 f hx3
    exact v_cVx dX9_masterWithValue_5 ml_X9_87 ok_X6_masterOf ehx3 (kX6_masterOf N x1 p0 f hx3) rfl (by decide) rfl (rest := []) rfl (Nat.le_of_ble_eq_true rfl) rfl rfl
  have ehx3 := tX6_masterOf (l := l) (g := g) (sz := sz) N x1 p0 f hx3
  refine v_cVR dX9_masterWithValue_5 ml_X9_87 ok_X6_masterOf ehx3 (kX6_masterOf N x1 p0 f hx3) rfl (by decide) rfl (rest := []) rfl (Nat.le_of_ble_eq_true rfl) ?_
  refine v_astore_n (ls1 := [(2, .ref x2), (0, .ref this), (1, .int p0)]) dX9_masterWithValue_8 rfl (by decide) rfl ?_
  refine v_aload_n dX9_masterWithValue_9 rfl rfl ?_
  obtain ⟨x4, hx4, h⟩ := ob_some h
  refine v_getI dX9_masterWithValue_10 fl_X9_73 hx4 ?_
  refine v_if_ne (tgt := 24) dX9_masterWithValue_13 (by decide) (fun c5 => ?_) (fun c5 => ?_)
  · replace h := in_ c5 h
    refine v_aload_n dX9_masterWithValue_24 rfl rfl ?_
    obtain rfl := Option.some.inj h
    exact v_aret dX9_masterWithValue_25 rfl rfl
  · replace h := ip_ c5 h
    obtain rfl := Option.some.inj h
    exact v_thr dX9_masterWithValue_16 dX9_masterWithValue_19 dX9_masterWithValue_20 dX9_masterWithValue_23 th_X9_70_72 (by decide) rfl (Nat.le_of_ble_eq_true rfl) rfl

/-! X9 size (WT) -/
def DX9_size (N : Nat) (this : Nat) (p0 : Int32) (f : HF) : Option ((Int32 ⊕ String) × HF) :=
  (ck f this 8).bind fun _ =>
  (gR f this 8 1).bind fun x1 =>
  (gR f this 8 0).bind fun x2 =>
  bRW (DX6_get N x2 p0 f) f fun x3 =>
  bRW (DX9_masterWithValue N this p0 f) f fun x5 =>
  bW (DX7_fittingSize N x1 x3 x5 f) fun x7 f9 =>
  some (.inl x7, f9)

set_option maxRecDepth 20000 in
theorem kX9_size (N : Nat) (this : Nat) (p0 : Int32) (f : HF) {r : ((Int32 ⊕ String) × HF)} (h : DX9_size N this p0 f = some r) : ck f this 8 = some () := by
  unfold DX9_size at h
  obtain ⟨_, hck, _⟩ := ob_some h
  exact hck

set_option maxRecDepth 20000 in
theorem tX9_size {l : Launch} {g : GT} {sz : Option Nat} (N : Nat) (this : Nat) (p0 : Int32) (f : HF) {r : ((Int32 ⊕ String) × HF)} (h : DX9_size N this p0 f = some r) : Mt l g yX9_size cX9_size 2 (Option.some Jvm.ClassFile.FieldType.int) 11 [.ref this, .int p0] f sz (roI r.1 r.2 sz) := by
  unfold DX9_size at h
  obtain ⟨_, hck, h⟩ := ob_some h
  refine mt_of (by decide) (Nat.le_of_ble_eq_true rfl) (?_ : V l g (fun _ => True) (RX9, cX9_size, 2, (Option.some Jvm.ClassFile.FieldType.int), [], "size") 11 (roI r.1 r.2 sz) 0 [(0, .ref this), (1, .int p0)] [] f sz 0 0)
  refine v_aload_n dX9_size_0 rfl rfl ?_
  obtain ⟨x1, hx1, h⟩ := ob_some h
  refine v_getR dX9_size_1 fl_X9_21 hx1 ?_
  refine v_aload_n dX9_size_4 rfl rfl ?_
  obtain ⟨x2, hx2, h⟩ := ob_some h
  refine v_getR dX9_size_5 fl_X9_12 hx2 ?_
  refine v_iload_n dX9_size_8 rfl rfl ?_
  rcases bRW_some h with ⟨x3, hx4, h⟩ | ⟨e9, hx4, h⟩
  rotate_left
  · cases h
    have ehx4 := tX6_get (l := l) (g := g) (sz := sz) N x2 p0 f hx4
    exact v_cVx dX9_size_9 ml_X9_60 ok_X6_get ehx4 (kX6_get N x2 p0 f hx4) rfl (by decide) rfl (rest := [.ref x1]) rfl (Nat.le_of_ble_eq_true rfl) rfl rfl
  have ehx4 := tX6_get (l := l) (g := g) (sz := sz) N x2 p0 f hx4
  refine v_cVR dX9_size_9 ml_X9_60 ok_X6_get ehx4 (kX6_get N x2 p0 f hx4) rfl (by decide) rfl (rest := [.ref x1]) rfl (Nat.le_of_ble_eq_true rfl) ?_
  refine v_aload_n dX9_size_12 rfl rfl ?_
  refine v_iload_n dX9_size_13 rfl rfl ?_
  rcases bRW_some h with ⟨x5, hx6, h⟩ | ⟨e9, hx6, h⟩
  rotate_left
  · cases h
    have ehx6 := tX9_masterWithValue (l := l) (g := g) (sz := sz) N this p0 f hx6
    exact v_cVx dX9_size_14 ml_X9_188 ok_X9_masterWithValue ehx6 (kX9_masterWithValue N this p0 f hx6) rfl (by decide) rfl (rest := [.ref x3, .ref x1]) rfl (Nat.le_of_ble_eq_true rfl) rfl rfl
  have ehx6 := tX9_masterWithValue (l := l) (g := g) (sz := sz) N this p0 f hx6
  refine v_cVR dX9_size_14 ml_X9_188 ok_X9_masterWithValue ehx6 (kX9_masterWithValue N this p0 f hx6) rfl (by decide) rfl (rest := [.ref x3, .ref x1]) rfl (Nat.le_of_ble_eq_true rfl) ?_
  obtain ⟨x7, f9, hx8, h⟩ := bW_some h
  have ehx8 := tX7_fittingSize (l := l) (g := g) (sz := sz) N x1 x3 x5 f hx8
  refine v_cVI dX9_size_17 ml_X9_191 ok_X7_fittingSize ehx8 (kX7_fittingSize N x1 x3 x5 f hx8) rfl (by decide) rfl (rest := []) rfl (Nat.le_of_ble_eq_true rfl) ?_
  obtain rfl := Option.some.inj h
  exact v_iret dX9_size_20 rfl rfl

