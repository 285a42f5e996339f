/-! X2 hasOptions (R) -/
def DX2_hasOptions (N : Nat) (this : Nat) (f : HF) : Option Int32 :=
  (ck f this 1).bind fun _ =>
  (gI f this 1 1).bind fun x1 =>
  if x1 = (3 : Int32) then
    some (1 : Int32)
  else
    (gI f this 1 1).bind fun x2 =>
    if x2 = (4 : Int32) then
      some (1 : Int32)
    else
      some (0 : Int32)

set_option maxRecDepth 20000 in
theorem kX2_hasOptions (N : Nat) (this : Nat) (f : HF) {r : Int32} (h : DX2_hasOptions N this f = some r) : ck f this 1 = some () := by
  unfold DX2_hasOptions at h
  obtain ⟨_, hck, _⟩ := ob_some h
  exact hck

set_option maxRecDepth 20000 in
theorem tX2_hasOptions {l : Launch} {g : GT} {sz : Option Nat} (N : Nat) (this : Nat) (f : HF) {r : Int32} (h : DX2_hasOptions N this f = some r) : Mt l g yX2_hasOptions cX2_hasOptions 1 (Option.some Jvm.ClassFile.FieldType.boolean) 0 [.ref this] f sz (roI (.inl r) f sz) := by
  unfold DX2_hasOptions at h
  obtain ⟨_, hck, h⟩ := ob_some h
  refine mt_of (by decide) (Nat.le_of_ble_eq_true rfl) (?_ : V l g (fun _ => True) (RX2, cX2_hasOptions, 1, (Option.some Jvm.ClassFile.FieldType.boolean), [], "hasOptions") 0 (roI (.inl r) f sz) 0 [(0, .ref this)] [] f sz 0 0)
  refine v_aload_n dX2_hasOptions_0 rfl rfl ?_
  obtain ⟨x1, hx1, h⟩ := ob_some h
  refine v_getI dX2_hasOptions_1 fl_X2_48 hx1 ?_
  refine v_iconst (v := 3) dX2_hasOptions_4 (by decide) ?_
  refine v_icmp_eq (tgt := 16) dX2_hasOptions_5 (by decide) (fun c4 => ?_) (fun c4 => ?_)
  · replace h := ip_ c4 h
    refine v_iconst (v := 1) dX2_hasOptions_16 (by decide) ?_
    refine v_goto (tgt := 21) dX2_hasOptions_17 (by decide) ?_
    obtain rfl := Option.some.inj h
    exact v_zret dX2_hasOptions_21 rfl (Or.inr rfl) rfl
  · replace h := in_ c4 h
    refine v_aload_n dX2_hasOptions_8 rfl rfl ?_
    obtain ⟨x2, hx2, h⟩ := ob_some h
    refine v_getI dX2_hasOptions_9 fl_X2_48 hx2 ?_
    refine v_iconst (v := 4) dX2_hasOptions_12 (by decide) ?_
    refine v_icmp_ne (tgt := 20) dX2_hasOptions_13 (by decide) (fun c3 => ?_) (fun c3 => ?_)
    · replace h := in_ c3 h
      refine v_iconst (v := 0) dX2_hasOptions_20 (by decide) ?_
      obtain rfl := Option.some.inj h
      exact v_zret dX2_hasOptions_21 rfl (Or.inl rfl) rfl
    · replace h := ip_ c3 h
      refine v_iconst (v := 1) dX2_hasOptions_16 (by decide) ?_
      refine v_goto (tgt := 21) dX2_hasOptions_17 (by decide) ?_
      obtain rfl := Option.some.inj h
      exact v_zret dX2_hasOptions_21 rfl (Or.inr rfl) rfl

/-! X2 begin (W) -/
def DX2_begin_40 (N : Nat)  (v0 : Nat) (s0 : Nat) (s1 : Int32) (f : HF) : Option (Unit × HF) :=
    (pV f s0 1 10 (.int s1)).bind fun f8 =>
    (gR f8 v0 1 7).bind fun x9 =>
    (sI f8 x9 0 (3 : Int32) (3 : Int32)).bind fun f10 =>
    (gR f10 v0 1 7).bind fun x11 =>
    (sI f10 x11 0 (5 : Int32) (800 : Int32)).bind fun f12 =>
    (gR f12 v0 1 7).bind fun x13 =>
    (sI f12 x13 0 (6 : Int32) (160 : Int32)).bind fun f14 =>
    some ((), f14)

def DX2_begin (N : Nat) (this : Nat) (p0 : Int32) (p1 : Int32) (p2 : Int32) (p3 : Int32) (p4 : Int32) (f : HF) : Option (Unit × HF) :=
  (ck f this 1).bind fun _ =>
  (pV f this 1 0 (.int p0)).bind fun f1 =>
  (pV f1 this 1 2 (.int p1)).bind fun f2 =>
  (pV f2 this 1 1 (.int p2)).bind fun f3 =>
  (pV f3 this 1 3 (.int p3)).bind fun f4 =>
  (pV f4 this 1 4 (.int p4)).bind fun f5 =>
  (DX2_hasOptions N this f5).bind fun x6 =>
  if x6 = 0 then
    DX2_begin_40 N this this (0 : Int32) f5
  else
    DX2_begin_40 N this this (-1 : Int32) f5

set_option maxRecDepth 20000 in
theorem tX2_begin_40 {l : Launch} {g : GT} {sz : Option Nat} (N : Nat)  {r : (Unit × HF)} : ∀ (v0 : Nat) (s0 : Nat) (s1 : Int32) (f : HF), DX2_begin_40 N v0 s0 s1 f = some r → V l g (fun _ => True) (RX2, cX2_begin, 6, (Option.none : Option Jvm.ClassFile.FieldType), [], "begin") 1 (roU (.inl r.1) r.2 sz) 40 [(0, .ref v0)] [.int s1, .ref s0] f sz 0 0 := by
  intro v0 s0 s1 f h
  unfold DX2_begin_40 at h
  obtain ⟨f8, hf8, h⟩ := ob_some h
  refine v_pI dX2_begin_40 fp_X2_61 hf8 ?_
  refine v_aload_n dX2_begin_43 rfl rfl ?_
  obtain ⟨x9, hx9, h⟩ := ob_some h
  refine v_getR dX2_begin_44 fl_X2_9 hx9 ?_
  refine v_iconst (v := 3) dX2_begin_47 (by decide) ?_
  refine v_iconst (v := 3) dX2_begin_48 (by decide) ?_
  obtain ⟨f10, hf10, h⟩ := ob_some h
  refine v_iast dX2_begin_49 hf10 ?_
  refine v_aload_n dX2_begin_50 rfl rfl ?_
  obtain ⟨x11, hx11, h⟩ := ob_some h
  refine v_getR dX2_begin_51 fl_X2_9 hx11 ?_
  refine v_iconst (v := 5) dX2_begin_54 (by decide) ?_
  refine v_sipush (v := 800) dX2_begin_55 (by decide) ?_
  obtain ⟨f12, hf12, h⟩ := ob_some h
  refine v_iast dX2_begin_58 hf12 ?_
  refine v_aload_n dX2_begin_59 rfl rfl ?_
  obtain ⟨x13, hx13, h⟩ := ob_some h
  refine v_getR dX2_begin_60 fl_X2_9 hx13 ?_
  refine v_bipush (v := 6) dX2_begin_63 (by decide) ?_
  refine v_sipush (v := 160) dX2_begin_65 (by decide) ?_
  obtain ⟨f14, hf14, h⟩ := ob_some h
  refine v_iast dX2_begin_68 hf14 ?_
  obtain rfl := Option.some.inj h
  exact v_vret dX2_begin_69 rfl rfl

set_option maxRecDepth 20000 in
theorem kX2_begin (N : Nat) (this : Nat) (p0 : Int32) (p1 : Int32) (p2 : Int32) (p3 : Int32) (p4 : Int32) (f : HF) {r : (Unit × HF)} (h : DX2_begin N this p0 p1 p2 p3 p4 f = some r) : ck f this 1 = some () := by
  unfold DX2_begin at h
  obtain ⟨_, hck, _⟩ := ob_some h
  exact hck

set_option maxRecDepth 20000 in
theorem tX2_begin {l : Launch} {g : GT} {sz : Option Nat} (N : Nat) (this : Nat) (p0 : Int32) (p1 : Int32) (p2 : Int32) (p3 : Int32) (p4 : Int32) (f : HF) {r : (Unit × HF)} (h : DX2_begin N this p0 p1 p2 p3 p4 f = some r) : Mt l g yX2_begin cX2_begin 6 (Option.none : Option Jvm.ClassFile.FieldType) 1 [.ref this, .int p0, .int p1, .int p2, .int p3, .int p4] f sz (roU (.inl r.1) r.2 sz) := by
  unfold DX2_begin at h
  obtain ⟨_, hck, h⟩ := ob_some h
  refine mt_of (by decide) (Nat.le_of_ble_eq_true rfl) (?_ : V l g (fun _ => True) (RX2, cX2_begin, 6, (Option.none : Option Jvm.ClassFile.FieldType), [], "begin") 1 (roU (.inl r.1) r.2 sz) 0 [(0, .ref this), (1, .int p0), (2, .int p1), (3, .int p2), (4, .int p3), (5, .int p4)] [] f sz 0 0)
  refine v_aload_n dX2_begin_0 rfl rfl ?_
  refine v_iload_n dX2_begin_1 rfl rfl ?_
  obtain ⟨f1, hf1, h⟩ := ob_some h
  refine v_pI dX2_begin_2 fp_X2_42 hf1 ?_
  refine v_aload_n dX2_begin_5 rfl rfl ?_
  refine v_iload_n dX2_begin_6 rfl rfl ?_
  obtain ⟨f2, hf2, h⟩ := ob_some h
  refine v_pI dX2_begin_7 fp_X2_45 hf2 ?_
  refine v_aload_n dX2_begin_10 rfl rfl ?_
  refine v_iload_n dX2_begin_11 rfl rfl ?_
  obtain ⟨f3, hf3, h⟩ := ob_some h
  refine v_pI dX2_begin_12 fp_X2_48 hf3 ?_
  refine v_aload_n dX2_begin_15 rfl rfl ?_
  refine v_iload dX2_begin_16 rfl ?_
  obtain ⟨f4, hf4, h⟩ := ob_some h
  refine v_pI dX2_begin_18 fp_X2_51 hf4 ?_
  refine v_aload_n dX2_begin_21 rfl rfl ?_
  refine v_iload dX2_begin_22 rfl ?_
  obtain ⟨f5, hf5, h⟩ := ob_some h
  refine v_pI dX2_begin_24 fp_X2_54 hf5 ?_
  refine v_aload_n dX2_begin_27 rfl rfl ?_
  refine v_aload_n dX2_begin_28 rfl rfl ?_
  obtain ⟨x6, hx7, h⟩ := ob_some h
  have ehx7 := tX2_hasOptions (l := l) (g := g) (sz := sz) N this f5 hx7
  refine v_cVI dX2_begin_29 ml_X2_57 ok_X2_hasOptions ehx7 (kX2_hasOptions N this f5 hx7) rfl (by decide) rfl (rest := [.ref this]) rfl (Nat.le_of_ble_eq_true rfl) ?_
  refine v_if_eq (tgt := 39) dX2_begin_32 (by decide) (fun c15 => ?_) (fun c15 => ?_)
  · replace h := ip_ c15 h
    refine v_iconst (v := 0) dX2_begin_39 (by decide) ?_
    exact v_sub (vs_c rfl vs_n) (tX2_begin_40 N this this (0 : Int32) f5 h)
  · replace h := in_ c15 h
    refine v_iconst (v := -1) dX2_begin_35 (by decide) ?_
    refine v_goto (tgt := 40) dX2_begin_36 (by decide) ?_
    exact v_sub (vs_c rfl vs_n) (tX2_begin_40 N this this (-1 : Int32) f5 h)

/-! X2 hasSigns (R) -/
def DX2_hasSigns (N : Nat) (this : Nat) (f : HF) : Option Int32 :=
  (ck f this 1).bind fun _ =>
  (gI f this 1 1).bind fun x1 =>
  if x1 = (1 : Int32) then
    some (1 : Int32)
  else
    (gI f this 1 1).bind fun x2 =>
    if x2 = (5 : Int32) then
      some (1 : Int32)
    else
      some (0 : Int32)

set_option maxRecDepth 20000 in
theorem kX2_hasSigns (N : Nat) (this : Nat) (f : HF) {r : Int32} (h : DX2_hasSigns N this f = some r) : ck f this 1 = some () := by
  unfold DX2_hasSigns at h
  obtain ⟨_, hck, _⟩ := ob_some h
  exact hck

set_option maxRecDepth 20000 in
theorem tX2_hasSigns {l : Launch} {g : GT} {sz : Option Nat} (N : Nat) (this : Nat) (f : HF) {r : Int32} (h : DX2_hasSigns N this f = some r) : Mt l g yX2_hasSigns cX2_hasSigns 1 (Option.some Jvm.ClassFile.FieldType.boolean) 0 [.ref this] f sz (roI (.inl r) f sz) := by
  unfold DX2_hasSigns at h
  obtain ⟨_, hck, h⟩ := ob_some h
  refine mt_of (by decide) (Nat.le_of_ble_eq_true rfl) (?_ : V l g (fun _ => True) (RX2, cX2_hasSigns, 1, (Option.some Jvm.ClassFile.FieldType.boolean), [], "hasSigns") 0 (roI (.inl r) f sz) 0 [(0, .ref this)] [] f sz 0 0)
  refine v_aload_n dX2_hasSigns_0 rfl rfl ?_
  obtain ⟨x1, hx1, h⟩ := ob_some h
  refine v_getI dX2_hasSigns_1 fl_X2_48 hx1 ?_
  refine v_iconst (v := 1) dX2_hasSigns_4 (by decide) ?_
  refine v_icmp_eq (tgt := 16) dX2_hasSigns_5 (by decide) (fun c4 => ?_) (fun c4 => ?_)
  · replace h := ip_ c4 h
    refine v_iconst (v := 1) dX2_hasSigns_16 (by decide) ?_
    refine v_goto (tgt := 21) dX2_hasSigns_17 (by decide) ?_
    obtain rfl := Option.some.inj h
    exact v_zret dX2_hasSigns_21 rfl (Or.inr rfl) rfl
  · replace h := in_ c4 h
    refine v_aload_n dX2_hasSigns_8 rfl rfl ?_
    obtain ⟨x2, hx2, h⟩ := ob_some h
    refine v_getI dX2_hasSigns_9 fl_X2_48 hx2 ?_
    refine v_iconst (v := 5) dX2_hasSigns_12 (by decide) ?_
    refine v_icmp_ne (tgt := 20) dX2_hasSigns_13 (by decide) (fun c3 => ?_) (fun c3 => ?_)
    · replace h := in_ c3 h
      refine v_iconst (v := 0) dX2_hasSigns_20 (by decide) ?_
      obtain rfl := Option.some.inj h
      exact v_zret dX2_hasSigns_21 rfl (Or.inl rfl) rfl
    · replace h := ip_ c3 h
      refine v_iconst (v := 1) dX2_hasSigns_16 (by decide) ?_
      refine v_goto (tgt := 21) dX2_hasSigns_17 (by decide) ?_
      obtain rfl := Option.some.inj h
      exact v_zret dX2_hasSigns_21 rfl (Or.inr rfl) rfl

/-! X2 isSign (R) -/
def DX2_isSign_20 (N : Nat) (f : HF)  (v1 : Int32) : Option Int32 :=
    if v1 = (45 : Int32) then
      some (1 : Int32)
    else
      if v1 = (46 : Int32) then
        some (1 : Int32)
      else
        some (0 : Int32)

def DX2_isSign (N : Nat) (this : Nat) (p0 : Int32) (f : HF) : Option Int32 :=
  (ck f this 1).bind fun _ =>
  (gI f this 1 1).bind fun x1 =>
  if x1 = (5 : Int32) then
    if p0 < (48 : Int32) then
      DX2_isSign_20 N f p0
    else
      if p0 ≤ (57 : Int32) then
        some (1 : Int32)
      else
        DX2_isSign_20 N f p0
  else
    (gI f this 1 1).bind fun x2 =>
    if x2 = (1 : Int32) then
      if p0 < (32 : Int32) then
        some (0 : Int32)
      else
        if (126 : Int32) < p0 then
          some (0 : Int32)
        else
          some (1 : Int32)
    else
      some (0 : Int32)

set_option maxRecDepth 20000 in
theorem tX2_isSign_20 {l : Launch} {g : GT} {sz : Option Nat} (N : Nat) (f : HF)  {r : Int32} : ∀ (v1 : Int32), DX2_isSign_20 N f v1 = some r → V l g (fun _ => True) (RX2, cX2_isSign, 2, (Option.some Jvm.ClassFile.FieldType.boolean), [], "isSign") 0 (roI (.inl r) f sz) 20 [(1, .int v1)] [] f sz 0 0 := by
  intro v1 h
  unfold DX2_isSign_20 at h
  refine v_iload_n dX2_isSign_20 rfl rfl ?_
  refine v_bipush (v := 45) dX2_isSign_21 (by decide) ?_
  refine v_icmp_eq (tgt := 32) dX2_isSign_23 (by decide) (fun c7 => ?_) (fun c7 => ?_)
  · replace h := ip_ c7 h
    refine v_iconst (v := 1) dX2_isSign_32 (by decide) ?_
    refine v_goto (tgt := 37) dX2_isSign_33 (by decide) ?_
    obtain rfl := Option.some.inj h
    exact v_zret dX2_isSign_37 rfl (Or.inr rfl) rfl
  · replace h := in_ c7 h
    refine v_iload_n dX2_isSign_26 rfl rfl ?_
    refine v_bipush (v := 46) dX2_isSign_27 (by decide) ?_
    refine v_icmp_ne (tgt := 36) dX2_isSign_29 (by decide) (fun c6 => ?_) (fun c6 => ?_)
    · replace h := in_ c6 h
      refine v_iconst (v := 0) dX2_isSign_36 (by decide) ?_
      obtain rfl := Option.some.inj h
      exact v_zret dX2_isSign_37 rfl (Or.inl rfl) rfl
    · replace h := ip_ c6 h
      refine v_iconst (v := 1) dX2_isSign_32 (by decide) ?_
      refine v_goto (tgt := 37) dX2_isSign_33 (by decide) ?_
      obtain rfl := Option.some.inj h
      exact v_zret dX2_isSign_37 rfl (Or.inr rfl) rfl

set_option maxRecDepth 20000 in
theorem kX2_isSign (N : Nat) (this : Nat) (p0 : Int32) (f : HF) {r : Int32} (h : DX2_isSign N this p0 f = some r) : ck f this 1 = some () := by
  unfold DX2_isSign at h
  obtain ⟨_, hck, _⟩ := ob_some h
  exact hck

set_option maxRecDepth 20000 in
theorem tX2_isSign {l : Launch} {g : GT} {sz : Option Nat} (N : Nat) (this : Nat) (p0 : Int32) (f : HF) {r : Int32} (h : DX2_isSign N this p0 f = some r) : Mt l g yX2_isSign cX2_isSign 2 (Option.some Jvm.ClassFile.FieldType.boolean) 0 [.ref this, .int p0] f sz (roI (.inl r) f sz) := by
  unfold DX2_isSign at h
  obtain ⟨_, hck, h⟩ := ob_some h
  refine mt_of (by decide) (Nat.le_of_ble_eq_true rfl) (?_ : V l g (fun _ => True) (RX2, cX2_isSign, 2, (Option.some Jvm.ClassFile.FieldType.boolean), [], "isSign") 0 (roI (.inl r) f sz) 0 [(0, .ref this), (1, .int p0)] [] f sz 0 0)
  refine v_aload_n dX2_isSign_0 rfl rfl ?_
  obtain ⟨x1, hx1, h⟩ := ob_some h
  refine v_getI dX2_isSign_1 fl_X2_48 hx1 ?_
  refine v_iconst (v := 5) dX2_isSign_4 (by decide) ?_
  refine v_icmp_ne (tgt := 38) dX2_isSign_5 (by decide) (fun c10 => ?_) (fun c10 => ?_)
  · replace h := in_ c10 h
    refine v_aload_n dX2_isSign_38 rfl rfl ?_
    obtain ⟨x2, hx2, h⟩ := ob_some h
    refine v_getI dX2_isSign_39 fl_X2_48 hx2 ?_
    refine v_iconst (v := 1) dX2_isSign_42 (by decide) ?_
    refine v_icmp_ne (tgt := 62) dX2_isSign_43 (by decide) (fun c5 => ?_) (fun c5 => ?_)
    · replace h := in_ c5 h
      refine v_iconst (v := 0) dX2_isSign_62 (by decide) ?_
      obtain rfl := Option.some.inj h
      exact v_zret dX2_isSign_63 rfl (Or.inl rfl) rfl
    · replace h := ip_ c5 h
      refine v_iload_n dX2_isSign_46 rfl rfl ?_
      refine v_bipush (v := 32) dX2_isSign_47 (by decide) ?_
      refine v_icmp_lt (tgt := 62) dX2_isSign_49 (by decide) (fun c4 => ?_) (fun c4 => ?_)
      · replace h := ip_ c4 h
        refine v_iconst (v := 0) dX2_isSign_62 (by decide) ?_
        obtain rfl := Option.some.inj h
        exact v_zret dX2_isSign_63 rfl (Or.inl rfl) rfl
      · replace h := in_ c4 h
        refine v_iload_n dX2_isSign_52 rfl rfl ?_
        refine v_bipush (v := 126) dX2_isSign_53 (by decide) ?_
        refine v_icmp_gt (tgt := 62) dX2_isSign_55 (by decide) (fun c3 => ?_) (fun c3 => ?_)
        · replace h := ip_ c3 h
          refine v_iconst (v := 0) dX2_isSign_62 (by decide) ?_
          obtain rfl := Option.some.inj h
          exact v_zret dX2_isSign_63 rfl (Or.inl rfl) rfl
        · replace h := in_ c3 h
          refine v_iconst (v := 1) dX2_isSign_58 (by decide) ?_
          refine v_goto (tgt := 63) dX2_isSign_59 (by decide) ?_
          obtain rfl := Option.some.inj h
          exact v_zret dX2_isSign_63 rfl (Or.inr rfl) rfl
  · replace h := ip_ c10 h
    refine v_iload_n dX2_isSign_8 rfl rfl ?_
    refine v_bipush (v := 48) dX2_isSign_9 (by decide) ?_
    refine v_icmp_lt (tgt := 20) dX2_isSign_11 (by decide) (fun c9 => ?_) (fun c9 => ?_)
    · replace h := ip_ c9 h
      exact v_sub (vs_c rfl vs_n) (tX2_isSign_20 N f p0 h)
    · replace h := in_ c9 h
      refine v_iload_n dX2_isSign_14 rfl rfl ?_
      refine v_bipush (v := 57) dX2_isSign_15 (by decide) ?_
      refine v_icmp_le (tgt := 32) dX2_isSign_17 (by decide) (fun c8 => ?_) (fun c8 => ?_)
      · replace h := ip_ c8 h
        refine v_iconst (v := 1) dX2_isSign_32 (by decide) ?_
        refine v_goto (tgt := 37) dX2_isSign_33 (by decide) ?_
        obtain rfl := Option.some.inj h
        exact v_zret dX2_isSign_37 rfl (Or.inr rfl) rfl
      · replace h := in_ c8 h
        exact v_sub (vs_c rfl vs_n) (tX2_isSign_20 N f p0 h)

/-! X2 room (R) -/
def DX2_room (N : Nat) (this : Nat) (f : HF) : Option Int32 :=
  (ck f this 1).bind fun _ =>
  (gI f this 1 1).bind fun x1 =>
  if x1 = (5 : Int32) then
    some (14 : Int32)
  else
    (gR f this 1 7).bind fun x2 =>
    (aI f x2 0 (1 : Int32)).bind fun x3 =>
    if x3 ≤ 0 then
      some (30 : Int32)
    else
      (gR f this 1 7).bind fun x4 =>
      (aI f x4 0 (1 : Int32)).bind fun x5 =>
      some x5

set_option maxRecDepth 20000 in
theorem kX2_room (N : Nat) (this : Nat) (f : HF) {r : Int32} (h : DX2_room N this f = some r) : ck f this 1 = some () := by
  unfold DX2_room at h
  obtain ⟨_, hck, _⟩ := ob_some h
  exact hck

set_option maxRecDepth 20000 in
theorem tX2_room {l : Launch} {g : GT} {sz : Option Nat} (N : Nat) (this : Nat) (f : HF) {r : Int32} (h : DX2_room N this f = some r) : Mt l g yX2_room cX2_room 1 (Option.some Jvm.ClassFile.FieldType.int) 0 [.ref this] f sz (roI (.inl r) f sz) := by
  unfold DX2_room at h
  obtain ⟨_, hck, h⟩ := ob_some h
  refine mt_of (by decide) (Nat.le_of_ble_eq_true rfl) (?_ : V l g (fun _ => True) (RX2, cX2_room, 1, (Option.some Jvm.ClassFile.FieldType.int), [], "room") 0 (roI (.inl r) f sz) 0 [(0, .ref this)] [] f sz 0 0)
  refine v_aload_n dX2_room_0 rfl rfl ?_
  obtain ⟨x1, hx1, h⟩ := ob_some h
  refine v_getI dX2_room_1 fl_X2_48 hx1 ?_
  refine v_iconst (v := 5) dX2_room_4 (by decide) ?_
  refine v_icmp_ne (tgt := 11) dX2_room_5 (by decide) (fun c7 => ?_) (fun c7 => ?_)
  · replace h := in_ c7 h
    refine v_aload_n dX2_room_11 rfl rfl ?_
    obtain ⟨x2, hx2, h⟩ := ob_some h
    refine v_getR dX2_room_12 fl_X2_9 hx2 ?_
    refine v_iconst (v := 1) dX2_room_15 (by decide) ?_
    obtain ⟨x3, hx3, h⟩ := ob_some h
    refine v_iald dX2_room_16 hx3 ?_
    refine v_if_le (tgt := 29) dX2_room_17 (by decide) (fun c6 => ?_) (fun c6 => ?_)
    · replace h := ip_ c6 h
      refine v_bipush (v := 30) dX2_room_29 (by decide) ?_
      obtain rfl := Option.some.inj h
      exact v_iret dX2_room_31 rfl rfl
    · replace h := in_ c6 h
      refine v_aload_n dX2_room_20 rfl rfl ?_
      obtain ⟨x4, hx4, h⟩ := ob_some h
      refine v_getR dX2_room_21 fl_X2_9 hx4 ?_
      refine v_iconst (v := 1) dX2_room_24 (by decide) ?_
      obtain ⟨x5, hx5, h⟩ := ob_some h
      refine v_iald dX2_room_25 hx5 ?_
      refine v_goto (tgt := 31) dX2_room_26 (by decide) ?_
      obtain rfl := Option.some.inj h
      exact v_iret dX2_room_31 rfl rfl
  · replace h := ip_ c7 h
    refine v_bipush (v := 14) dX2_room_8 (by decide) ?_
    obtain rfl := Option.some.inj h
    exact v_iret dX2_room_10 rfl rfl

/-! X2 mayBeNone (R) -/
def DX2_mayBeNone (N : Nat) (this : Nat) (f : HF) : Option Int32 :=
  (ck f this 1).bind fun _ =>
  (gI f this 1 1).bind fun x1 =>
  if x1 = (4 : Int32) then
    some (1 : Int32)
  else
    (gI f this 1 1).bind fun x2 =>
    if x2 = (3 : Int32) then
      (gR f this 1 7).bind fun x3 =>
      (aI f x3 0 (2 : Int32)).bind fun x4 =>
      if x4 = (1 : Int32) then
        some (1 : Int32)
      else
        (gI f this 1 10).bind fun x5 =>
        if x5 = (-1 : Int32) then
          some (1 : Int32)
        else
          some (0 : Int32)
    else
      some (0 : Int32)

set_option maxRecDepth 20000 in
theorem kX2_mayBeNone (N : Nat) (this : Nat) (f : HF) {r : Int32} (h : DX2_mayBeNone N this f = some r) : ck f this 1 = some () := by
  unfold DX2_mayBeNone at h
  obtain ⟨_, hck, _⟩ := ob_some h
  exact hck

set_option maxRecDepth 20000 in
theorem tX2_mayBeNone {l : Launch} {g : GT} {sz : Option Nat} (N : Nat) (this : Nat) (f : HF) {r : Int32} (h : DX2_mayBeNone N this f = some r) : Mt l g yX2_mayBeNone cX2_mayBeNone 1 (Option.some Jvm.ClassFile.FieldType.boolean) 0 [.ref this] f sz (roI (.inl r) f sz) := by
  unfold DX2_mayBeNone at h
  obtain ⟨_, hck, h⟩ := ob_some h
  refine mt_of (by decide) (Nat.le_of_ble_eq_true rfl) (?_ : V l g (fun _ => True) (RX2, cX2_mayBeNone, 1, (Option.some Jvm.ClassFile.FieldType.boolean), [], "mayBeNone") 0 (roI (.inl r) f sz) 0 [(0, .ref this)] [] f sz 0 0)
  refine v_aload_n dX2_mayBeNone_0 rfl rfl ?_
  obtain ⟨x1, hx1, h⟩ := ob_some h
  refine v_getI dX2_mayBeNone_1 fl_X2_48 hx1 ?_
  refine v_iconst (v := 4) dX2_mayBeNone_4 (by decide) ?_
  refine v_icmp_eq (tgt := 34) dX2_mayBeNone_5 (by decide) (fun c9 => ?_) (fun c9 => ?_)
  · replace h := ip_ c9 h
    refine v_iconst (v := 1) dX2_mayBeNone_34 (by decide) ?_
    refine v_goto (tgt := 39) dX2_mayBeNone_35 (by decide) ?_
    obtain rfl := Option.some.inj h
    exact v_zret dX2_mayBeNone_39 rfl (Or.inr rfl) rfl
  · replace h := in_ c9 h
    refine v_aload_n dX2_mayBeNone_8 rfl rfl ?_
    obtain ⟨x2, hx2, h⟩ := ob_some h
    refine v_getI dX2_mayBeNone_9 fl_X2_48 hx2 ?_
    refine v_iconst (v := 3) dX2_mayBeNone_12 (by decide) ?_
    refine v_icmp_ne (tgt := 38) dX2_mayBeNone_13 (by decide) (fun c8 => ?_) (fun c8 => ?_)
    · replace h := in_ c8 h
      refine v_iconst (v := 0) dX2_mayBeNone_38 (by decide) ?_
      obtain rfl := Option.some.inj h
      exact v_zret dX2_mayBeNone_39 rfl (Or.inl rfl) rfl
    · replace h := ip_ c8 h
      refine v_aload_n dX2_mayBeNone_16 rfl rfl ?_
      obtain ⟨x3, hx3, h⟩ := ob_some h
      refine v_getR dX2_mayBeNone_17 fl_X2_9 hx3 ?_
      refine v_iconst (v := 2) dX2_mayBeNone_20 (by decide) ?_
      obtain ⟨x4, hx4, h⟩ := ob_some h
      refine v_iald dX2_mayBeNone_21 hx4 ?_
      refine v_iconst (v := 1) dX2_mayBeNone_22 (by decide) ?_
      refine v_icmp_eq (tgt := 34) dX2_mayBeNone_23 (by decide) (fun c7 => ?_) (fun c7 => ?_)
      · replace h := ip_ c7 h
        refine v_iconst (v := 1) dX2_mayBeNone_34 (by decide) ?_
        refine v_goto (tgt := 39) dX2_mayBeNone_35 (by decide) ?_
        obtain rfl := Option.some.inj h
        exact v_zret dX2_mayBeNone_39 rfl (Or.inr rfl) rfl
      · replace h := in_ c7 h
        refine v_aload_n dX2_mayBeNone_26 rfl rfl ?_
        obtain ⟨x5, hx5, h⟩ := ob_some h
        refine v_getI dX2_mayBeNone_27 fl_X2_61 hx5 ?_
        refine v_iconst (v := -1) dX2_mayBeNone_30 (by decide) ?_
        refine v_icmp_ne (tgt := 38) dX2_mayBeNone_31 (by decide) (fun c6 => ?_) (fun c6 => ?_)
        · replace h := in_ c6 h
          refine v_iconst (v := 0) dX2_mayBeNone_38 (by decide) ?_
          obtain rfl := Option.some.inj h
          exact v_zret dX2_mayBeNone_39 rfl (Or.inl rfl) rfl
        · replace h := ip_ c6 h
          refine v_iconst (v := 1) dX2_mayBeNone_34 (by decide) ?_
          refine v_goto (tgt := 39) dX2_mayBeNone_35 (by decide) ?_
          obtain rfl := Option.some.inj h
          exact v_zret dX2_mayBeNone_39 rfl (Or.inr rfl) rfl

/-! X2 isFlag (R) -/
def DX2_isFlag (N : Nat) (p0 : Int32) (f : HF) : Option Int32 :=
  if p0 = 0 then
    some (1 : Int32)
  else
    if p0 = (1 : Int32) then
      some (1 : Int32)
    else
      some (0 : Int32)

set_option maxRecDepth 20000 in
theorem tX2_isFlag {l : Launch} {g : GT} {sz : Option Nat} (N : Nat) (p0 : Int32) (f : HF) {r : Int32} (h : DX2_isFlag N p0 f = some r) : Mt l g yX2_isFlag cX2_isFlag 1 (Option.some Jvm.ClassFile.FieldType.boolean) 0 [.int p0] f sz (roI (.inl r) f sz) := by
  unfold DX2_isFlag at h
  refine mt_of (by decide) (Nat.le_of_ble_eq_true rfl) (?_ : V l g (fun _ => True) (RX2, cX2_isFlag, 1, (Option.some Jvm.ClassFile.FieldType.boolean), [], "isFlag") 0 (roI (.inl r) f sz) 0 [(0, .int p0)] [] f sz 0 0)
  refine v_iload_n dX2_isFlag_0 rfl rfl ?_
  refine v_if_eq (tgt := 9) dX2_isFlag_1 (by decide) (fun c2 => ?_) (fun c2 => ?_)
  · replace h := ip_ c2 h
    refine v_iconst (v := 1) dX2_isFlag_9 (by decide) ?_
    refine v_goto (tgt := 14) dX2_isFlag_10 (by decide) ?_
    obtain rfl := Option.some.inj h
    exact v_zret dX2_isFlag_14 rfl (Or.inr rfl) rfl
  · replace h := in_ c2 h
    refine v_iload_n dX2_isFlag_4 rfl rfl ?_
    refine v_iconst (v := 1) dX2_isFlag_5 (by decide) ?_
    refine v_icmp_ne (tgt := 13) dX2_isFlag_6 (by decide) (fun c1 => ?_) (fun c1 => ?_)
    · replace h := in_ c1 h
      refine v_iconst (v := 0) dX2_isFlag_13 (by decide) ?_
      obtain rfl := Option.some.inj h
      exact v_zret dX2_isFlag_14 rfl (Or.inl rfl) rfl
    · replace h := ip_ c1 h
      refine v_iconst (v := 1) dX2_isFlag_9 (by decide) ?_
      refine v_goto (tgt := 14) dX2_isFlag_10 (by decide) ?_
      obtain rfl := Option.some.inj h
      exact v_zret dX2_isFlag_14 rfl (Or.inr rfl) rfl

/-! X2 couldTake (R) -/
def DX2_couldTake (N : Nat) (this : Nat) (p0 : Int32) (f : HF) : Option Int32 :=
  (ck f this 1).bind fun _ =>
  (DX2_hasSigns N this f).bind fun x1 =>
  if x1 = 0 then
    (DX2_hasOptions N this f).bind fun x3 =>
    if x3 = 0 then
      (gI f this 1 1).bind fun x5 =>
      if x5 = (2 : Int32) then
        (DX2_isFlag N p0 f).bind fun x6 =>
        if x6 = 0 then
          some (0 : Int32)
        else
          some (1 : Int32)
      else
        some (0 : Int32)
    else
      if p0 = (-1 : Int32) then
        (DX2_mayBeNone N this f).bind fun x13 =>
        if x13 = 0 ∨ x13 = 1 then some x13 else none
      else
        (gR f this 1 9).bind fun x10 =>
        (DX5_has N x10 p0 f).bind fun x11 =>
        if x11 = 0 ∨ x11 = 1 then some x11 else none
  else
    if p0 = (-1 : Int32) then
      some (1 : Int32)
    else
      (DX2_isSign N this p0 f).bind fun x17 =>
      if x17 = 0 then
        some (0 : Int32)
      else
        some (1 : Int32)

set_option maxRecDepth 20000 in
theorem kX2_couldTake (N : Nat) (this : Nat) (p0 : Int32) (f : HF) {r : Int32} (h : DX2_couldTake N this p0 f = some r) : ck f this 1 = some () := by
  unfold DX2_couldTake at h
  obtain ⟨_, hck, _⟩ := ob_some h
  exact hck

set_option maxRecDepth 20000 in
theorem tX2_couldTake {l : Launch} {g : GT} {sz : Option Nat} (N : Nat) (this : Nat) (p0 : Int32) (f : HF) {r : Int32} (h : DX2_couldTake N this p0 f = some r) : Mt l g yX2_couldTake cX2_couldTake 2 (Option.some Jvm.ClassFile.FieldType.boolean) 1 [.ref this, .int p0] f sz (roI (.inl r) f sz) := by
  unfold DX2_couldTake at h
  obtain ⟨_, hck, h⟩ := ob_some h
  refine mt_of (by decide) (Nat.le_of_ble_eq_true rfl) (?_ : V l g (fun _ => True) (RX2, cX2_couldTake, 2, (Option.some Jvm.ClassFile.FieldType.boolean), [], "couldTake") 1 (roI (.inl r) f sz) 0 [(0, .ref this), (1, .int p0)] [] f sz 0 0)
  refine v_aload_n dX2_couldTake_0 rfl rfl ?_
  obtain ⟨x1, hx2, h⟩ := ob_some h
  have ehx2 := tX2_hasSigns (l := l) (g := g) (sz := sz) N this f hx2
  refine v_cVI dX2_couldTake_1 ml_X2_64 ok_X2_hasSigns ehx2 (kX2_hasSigns N this f hx2) rfl (by decide) rfl (rest := []) rfl (Nat.le_of_ble_eq_true rfl) ?_
  refine v_if_eq (tgt := 26) dX2_couldTake_4 (by decide) (fun c21 => ?_) (fun c21 => ?_)
  · replace h := ip_ c21 h
    refine v_aload_n dX2_couldTake_26 rfl rfl ?_
    obtain ⟨x3, hx4, h⟩ := ob_some h
    have ehx4 := tX2_hasOptions (l := l) (g := g) (sz := sz) N this f hx4
    refine v_cVI dX2_couldTake_27 ml_X2_57 ok_X2_hasOptions ehx4 (kX2_hasOptions N this f hx4) rfl (by decide) rfl (rest := []) rfl (Nat.le_of_ble_eq_true rfl) ?_
    refine v_if_eq (tgt := 54) dX2_couldTake_30 (by decide) (fun c16 => ?_) (fun c16 => ?_)
    · replace h := ip_ c16 h
      refine v_aload_n dX2_couldTake_54 rfl rfl ?_
      obtain ⟨x5, hx5, h⟩ := ob_some h
      refine v_getI dX2_couldTake_55 fl_X2_48 hx5 ?_
      refine v_iconst (v := 2) dX2_couldTake_58 (by decide) ?_
      refine v_icmp_ne (tgt := 73) dX2_couldTake_59 (by decide) (fun c9 => ?_) (fun c9 => ?_)
      · replace h := in_ c9 h
        refine v_iconst (v := 0) dX2_couldTake_73 (by decide) ?_
        obtain rfl := Option.some.inj h
        exact v_zret dX2_couldTake_74 rfl (Or.inl rfl) rfl
      · replace h := ip_ c9 h
        refine v_iload_n dX2_couldTake_62 rfl rfl ?_
        obtain ⟨x6, hx7, h⟩ := ob_some h
        have ehx7 := tX2_isFlag (l := l) (g := g) (sz := sz) N p0 f hx7
        refine v_cSI dX2_couldTake_63 ml_X2_77 ok_X2_isFlag ehx7 (by decide) rfl (rest := []) rfl (Nat.le_of_ble_eq_true rfl) ?_
        refine v_if_eq (tgt := 73) dX2_couldTake_66 (by decide) (fun c8 => ?_) (fun c8 => ?_)
        · replace h := ip_ c8 h
          refine v_iconst (v := 0) dX2_couldTake_73 (by decide) ?_
          obtain rfl := Option.some.inj h
          exact v_zret dX2_couldTake_74 rfl (Or.inl rfl) rfl
        · replace h := in_ c8 h
          refine v_iconst (v := 1) dX2_couldTake_69 (by decide) ?_
          refine v_goto (tgt := 74) dX2_couldTake_70 (by decide) ?_
          obtain rfl := Option.some.inj h
          exact v_zret dX2_couldTake_74 rfl (Or.inr rfl) rfl
    · replace h := in_ c16 h
      refine v_iload_n dX2_couldTake_33 rfl rfl ?_
      refine v_iconst (v := -1) dX2_couldTake_34 (by decide) ?_
      refine v_icmp_ne (tgt := 45) dX2_couldTake_35 (by decide) (fun c15 => ?_) (fun c15 => ?_)
      · replace h := in_ c15 h
        refine v_aload_n dX2_couldTake_45 rfl rfl ?_
        obtain ⟨x10, hx10, h⟩ := ob_some h
        refine v_getR dX2_couldTake_46 fl_X2_24 hx10 ?_
        refine v_iload_n dX2_couldTake_49 rfl rfl ?_
        obtain ⟨x11, hx12, h⟩ := ob_some h
        have ehx12 := tX5_has (l := l) (g := g) (sz := sz) N x10 p0 f hx12
        refine v_cVI dX2_couldTake_50 ml_X2_74 ok_X5_has ehx12 (kX5_has N x10 p0 f hx12) rfl (by decide) rfl (rest := []) rfl (Nat.le_of_ble_eq_true rfl) ?_
        obtain ⟨hB, h⟩ := if_some h
        obtain rfl := Option.some.inj h
        exact v_zret dX2_couldTake_53 rfl hB rfl
      · replace h := ip_ c15 h
        refine v_aload_n dX2_couldTake_38 rfl rfl ?_
        obtain ⟨x13, hx14, h⟩ := ob_some h
        have ehx14 := tX2_mayBeNone (l := l) (g := g) (sz := sz) N this f hx14
        refine v_cVI dX2_couldTake_39 ml_X2_71 ok_X2_mayBeNone ehx14 (kX2_mayBeNone N this f hx14) rfl (by decide) rfl (rest := []) rfl (Nat.le_of_ble_eq_true rfl) ?_
        refine v_goto (tgt := 53) dX2_couldTake_42 (by decide) ?_
        obtain ⟨hB, h⟩ := if_some h
        obtain rfl := Option.some.inj h
        exact v_zret dX2_couldTake_53 rfl hB rfl
  · replace h := in_ c21 h
    refine v_iload_n dX2_couldTake_7 rfl rfl ?_
    refine v_iconst (v := -1) dX2_couldTake_8 (by decide) ?_
    refine v_icmp_eq (tgt := 20) dX2_couldTake_9 (by decide) (fun c20 => ?_) (fun c20 => ?_)
    · replace h := ip_ c20 h
      refine v_iconst (v := 1) dX2_couldTake_20 (by decide) ?_
      refine v_goto (tgt := 25) dX2_couldTake_21 (by decide) ?_
      obtain rfl := Option.some.inj h
      exact v_zret dX2_couldTake_25 rfl (Or.inr rfl) rfl
    · replace h := in_ c20 h
      refine v_aload_n dX2_couldTake_12 rfl rfl ?_
      refine v_iload_n dX2_couldTake_13 rfl rfl ?_
      obtain ⟨x17, hx18, h⟩ := ob_some h
      have ehx18 := tX2_isSign (l := l) (g := g) (sz := sz) N this p0 f hx18
      refine v_cVI dX2_couldTake_14 ml_X2_67 ok_X2_isSign ehx18 (kX2_isSign N this p0 f hx18) rfl (by decide) rfl (rest := []) rfl (Nat.le_of_ble_eq_true rfl) ?_
      refine v_if_eq (tgt := 24) dX2_couldTake_17 (by decide) (fun c19 => ?_) (fun c19 => ?_)
      · replace h := ip_ c19 h
        refine v_iconst (v := 0) dX2_couldTake_24 (by decide) ?_
        obtain rfl := Option.some.inj h
        exact v_zret dX2_couldTake_25 rfl (Or.inl rfl) rfl
      · replace h := in_ c19 h
        refine v_iconst (v := 1) dX2_couldTake_20 (by decide) ?_
        refine v_goto (tgt := 25) dX2_couldTake_21 (by decide) ?_
        obtain rfl := Option.some.inj h
        exact v_zret dX2_couldTake_25 rfl (Or.inr rfl) rfl

/-! X2 takeSign (WT) -/
def DX2_takeSign (N : Nat) (this : Nat) (p0 : Int32) (f : HF) : Option ((Int32 ⊕ String) × HF) :=
  (ck f this 1).bind fun _ =>
  if p0 = (-1 : Int32) then
    (gR f this 1 8).bind fun x14 =>
    bW (DX5_clear N x14 f) fun x15 f17 =>
    some (.inl (0 : Int32), f17)
  else
    (gR f this 1 8).bind fun x1 =>
    (DX5_count N x1 f).bind fun x2 =>
    (DX2_room N this f).bind fun x4 =>
    if x2 < x4 then
      (gR f this 1 8).bind fun x6 =>
      bW (DX5_add N x6 p0 f) fun x7 f9 =>
      (gR f9 this 1 8).bind fun x10 =>
      (DX5_count N x10 f9).bind fun x11 =>
      some (.inl x11, f9)
    else
      some (.inr "java/lang/UnsupportedOperationException", f)

set_option maxRecDepth 20000 in
theorem kX2_takeSign (N : Nat) (this : Nat) (p0 : Int32) (f : HF) {r : ((Int32 ⊕ String) × HF)} (h : DX2_takeSign N this p0 f = some r) : ck f this 1 = some () := by
  unfold DX2_takeSign at h
  obtain ⟨_, hck, _⟩ := ob_some h
  exact hck

set_option maxRecDepth 20000 in
theorem tX2_takeSign {l : Launch} {g : GT} {sz : Option Nat} (N : Nat) (this : Nat) (p0 : Int32) (f : HF) {r : ((Int32 ⊕ String) × HF)} (h : DX2_takeSign N this p0 f = some r) : Mt l g yX2_takeSign cX2_takeSign 2 (Option.some Jvm.ClassFile.FieldType.int) 8 [.ref this, .int p0] f sz (roI r.1 r.2 sz) := by
  unfold DX2_takeSign at h
  obtain ⟨_, hck, h⟩ := ob_some h
  refine mt_of (by decide) (Nat.le_of_ble_eq_true rfl) (?_ : V l g (fun _ => True) (RX2, cX2_takeSign, 2, (Option.some Jvm.ClassFile.FieldType.int), [], "takeSign") 8 (roI r.1 r.2 sz) 0 [(0, .ref this), (1, .int p0)] [] f sz 0 0)
  refine v_iload_n dX2_takeSign_0 rfl rfl ?_
  refine v_iconst (v := -1) dX2_takeSign_1 (by decide) ?_
  refine v_icmp_ne (tgt := 14) dX2_takeSign_2 (by decide) (fun c18 => ?_) (fun c18 => ?_)
  · replace h := in_ c18 h
    refine v_aload_n dX2_takeSign_14 rfl rfl ?_
    obtain ⟨x1, hx1, h⟩ := ob_some h
    refine v_getR dX2_takeSign_15 fl_X2_20 hx1 ?_
    obtain ⟨x2, hx3, h⟩ := ob_some h
    have ehx3 := tX5_count (l := l) (g := g) (sz := sz) N x1 f hx3
    refine v_cVI dX2_takeSign_18 ml_X2_83 ok_X5_count ehx3 (kX5_count N x1 f hx3) rfl (by decide) rfl (rest := []) rfl (Nat.le_of_ble_eq_true rfl) ?_
    refine v_aload_n dX2_takeSign_21 rfl rfl ?_
    obtain ⟨x4, hx5, h⟩ := ob_some h
    have ehx5 := tX2_room (l := l) (g := g) (sz := sz) N this f hx5
    refine v_cVI dX2_takeSign_22 ml_X2_87 ok_X2_room ehx5 (kX2_room N this f hx5) rfl (by decide) rfl (rest := [.int x2]) rfl (Nat.le_of_ble_eq_true rfl) ?_
    refine v_icmp_lt (tgt := 36) dX2_takeSign_25 (by decide) (fun c13 => ?_) (fun c13 => ?_)
    · replace h := ip_ c13 h
      refine v_aload_n dX2_takeSign_36 rfl rfl ?_
      obtain ⟨x6, hx6, h⟩ := ob_some h
      refine v_getR dX2_takeSign_37 fl_X2_20 hx6 ?_
      refine v_iload_n dX2_takeSign_40 rfl rfl ?_
      obtain ⟨x7, f9, hx8, h⟩ := bW_some h
      have ehx8 := tX5_add (l := l) (g := g) (sz := sz) N x6 p0 f hx8
      refine v_cVI dX2_takeSign_41 ml_X2_93 ok_X5_add ehx8 (kX5_add N x6 p0 f hx8) rfl (by decide) rfl (rest := []) rfl (Nat.le_of_ble_eq_true rfl) ?_
      refine v_pop dX2_takeSign_44 rfl ?_
      refine v_aload_n dX2_takeSign_45 rfl rfl ?_
      obtain ⟨x10, hx10, h⟩ := ob_some h
      refine v_getR dX2_takeSign_46 fl_X2_20 hx10 ?_
      obtain ⟨x11, hx12, h⟩ := ob_some h
      have ehx12 := tX5_count (l := l) (g := g) (sz := sz) N x10 f9 hx12
      refine v_cVI dX2_takeSign_49 ml_X2_83 ok_X5_count ehx12 (kX5_count N x10 f9 hx12) rfl (by decide) rfl (rest := []) rfl (Nat.le_of_ble_eq_true rfl) ?_
      obtain rfl := Option.some.inj h
      exact v_iret dX2_takeSign_52 rfl rfl
    · replace h := in_ c13 h
      obtain rfl := Option.some.inj h
      exact v_thr dX2_takeSign_28 dX2_takeSign_31 dX2_takeSign_32 dX2_takeSign_35 th_X2_90_92 (by decide) rfl (Nat.le_of_ble_eq_true rfl) rfl
  · replace h := ip_ c18 h
    refine v_aload_n dX2_takeSign_5 rfl rfl ?_
    obtain ⟨x14, hx14, h⟩ := ob_some h
    refine v_getR dX2_takeSign_6 fl_X2_20 hx14 ?_
    obtain ⟨x15, f17, hx16, h⟩ := bW_some h
    have ehx16 := tX5_clear (l := l) (g := g) (sz := sz) N x14 f hx16
    refine v_cVU dX2_takeSign_9 ml_X2_80 ok_X5_clear ehx16 (kX5_clear N x14 f hx16) rfl (by decide) rfl (rest := []) rfl (Nat.le_of_ble_eq_true rfl) ?_
    refine v_iconst (v := 0) dX2_takeSign_12 (by decide) ?_
    obtain rfl := Option.some.inj h
    exact v_iret dX2_takeSign_13 rfl rfl

/-! X2 pick (W) -/
def DX2_pick (N : Nat) (this : Nat) (p0 : Int32) (f : HF) : Option (Int32 × HF) :=
  (ck f this 1).bind fun _ =>
  (pV f this 1 10 (.int p0)).bind fun f1 =>
  some (p0, f1)

set_option maxRecDepth 20000 in
theorem kX2_pick (N : Nat) (this : Nat) (p0 : Int32) (f : HF) {r : (Int32 × HF)} (h : DX2_pick N this p0 f = some r) : ck f this 1 = some () := by
  unfold DX2_pick at h
  obtain ⟨_, hck, _⟩ := ob_some h
  exact hck

set_option maxRecDepth 20000 in
theorem tX2_pick {l : Launch} {g : GT} {sz : Option Nat} (N : Nat) (this : Nat) (p0 : Int32) (f : HF) {r : (Int32 × HF)} (h : DX2_pick N this p0 f = some r) : Mt l g yX2_pick cX2_pick 2 (Option.some Jvm.ClassFile.FieldType.int) 0 [.ref this, .int p0] f sz (roI (.inl r.1) r.2 sz) := by
  unfold DX2_pick at h
  obtain ⟨_, hck, h⟩ := ob_some h
  refine mt_of (by decide) (Nat.le_of_ble_eq_true rfl) (?_ : V l g (fun _ => True) (RX2, cX2_pick, 2, (Option.some Jvm.ClassFile.FieldType.int), [], "pick") 0 (roI (.inl r.1) r.2 sz) 0 [(0, .ref this), (1, .int p0)] [] f sz 0 0)
  refine v_aload_n dX2_pick_0 rfl rfl ?_
  refine v_iload_n dX2_pick_1 rfl rfl ?_
  obtain ⟨f1, hf1, h⟩ := ob_some h
  refine v_pI dX2_pick_2 fp_X2_61 hf1 ?_
  refine v_iload_n dX2_pick_5 rfl rfl ?_
  obtain rfl := Option.some.inj h
  exact v_iret dX2_pick_6 rfl rfl

/-! X2 maySetTo (R) -/
def DX2_maySetTo_168 (N : Nat) (f : HF)  (v0 : Nat) (v2 : Int32) : Option Int32 :=
    (gI f v0 1 1).bind fun x34 =>
    if x34 = 0 then
      some (0 : Int32)
    else
      if v2 < 0 then
        some (0 : Int32)
      else
        if (100000 : Int32) < v2 then
          some (0 : Int32)
        else
          some (1 : Int32)

def DX2_maySetTo (N : Nat) (this : Nat) (p0 : Int32) (p1 : Int32) (f : HF) : Option Int32 :=
  (ck f this 1).bind fun _ =>
  if p0 = 0 then
    (gI f this 1 1).bind fun x2 =>
    if x2 = 0 then
      some (0 : Int32)
    else
      (DX2_isFlag N p1 f).bind fun x3 =>
      if x3 = 0 then
        some (0 : Int32)
      else
        some (1 : Int32)
  else
  if p0 = 1 then
    (gI f this 1 1).bind fun x8 =>
    if x8 = (1 : Int32) then
      if p1 = 0 then
        some (1 : Int32)
      else
        (gR f this 1 8).bind fun x9 =>
        (DX5_count N x9 f).bind fun x10 =>
        if p1 < x10 then
          some (0 : Int32)
        else
          if (30 : Int32) < p1 then
            some (0 : Int32)
          else
            some (1 : Int32)
    else
      some (0 : Int32)
  else
  if p0 = 2 then
    (gI f this 1 1).bind fun x17 =>
    if x17 = (3 : Int32) then
      (DX2_isFlag N p1 f).bind fun x18 =>
      if x18 = 0 then
        some (0 : Int32)
      else
        some (1 : Int32)
    else
      some (0 : Int32)
  else
  if p0 = 3 then
    (gI f this 1 1).bind fun x23 =>
    if x23 = (5 : Int32) then
      if p1 < 0 then
        some (0 : Int32)
      else
        if (3 : Int32) < p1 then
          some (0 : Int32)
        else
          some (1 : Int32)
    else
      some (0 : Int32)
  else
  if p0 = 4 then
    (gI f this 1 1).bind fun x28 =>
    if x28 = (5 : Int32) then
      (DX2_isFlag N p1 f).bind fun x29 =>
      if x29 = 0 then
        some (0 : Int32)
      else
        some (1 : Int32)
    else
      some (0 : Int32)
  else
  if p0 = 5 then
    DX2_maySetTo_168 N f this p1
  else
  if p0 = 6 then
    DX2_maySetTo_168 N f this p1
  else
  if p0 = 7 then
    (gI f this 1 1).bind fun x40 =>
    if x40 = 0 then
      some (0 : Int32)
    else
      if p1 < 0 then
        some (0 : Int32)
      else
        if (2 : Int32) < p1 then
          some (0 : Int32)
        else
          some (1 : Int32)
  else
  some (0 : Int32)

set_option maxRecDepth 20000 in
theorem tX2_maySetTo_168 {l : Launch} {g : GT} {sz : Option Nat} (N : Nat) (f : HF)  {r : Int32} : ∀ (v0 : Nat) (v2 : Int32), DX2_maySetTo_168 N f v0 v2 = some r → V l g (fun _ => True) (RX2, cX2_maySetTo, 3, (Option.some Jvm.ClassFile.FieldType.boolean), [], "maySetTo") 1 (roI (.inl r) f sz) 168 [(0, .ref v0), (2, .int v2)] [] f sz 0 0 := by
  intro v0 v2 h
  unfold DX2_maySetTo_168 at h
  refine v_aload_n dX2_maySetTo_168 rfl rfl ?_
  obtain ⟨x34, hx34, h⟩ := ob_some h
  refine v_getI dX2_maySetTo_169 fl_X2_48 hx34 ?_
  refine v_if_eq (tgt := 189) dX2_maySetTo_172 (by decide) (fun c37 => ?_) (fun c37 => ?_)
  · replace h := ip_ c37 h
    refine v_iconst (v := 0) dX2_maySetTo_189 (by decide) ?_
    obtain rfl := Option.some.inj h
    exact v_zret dX2_maySetTo_190 rfl (Or.inl rfl) rfl
  · replace h := in_ c37 h
    refine v_iload_n dX2_maySetTo_175 rfl rfl ?_
    refine v_if_lt (tgt := 189) dX2_maySetTo_176 (by decide) (fun c36 => ?_) (fun c36 => ?_)
    · replace h := ip_ c36 h
      refine v_iconst (v := 0) dX2_maySetTo_189 (by decide) ?_
      obtain rfl := Option.some.inj h
      exact v_zret dX2_maySetTo_190 rfl (Or.inl rfl) rfl
    · replace h := in_ c36 h
      refine v_iload_n dX2_maySetTo_179 rfl rfl ?_
      refine v_ldc dX2_maySetTo_180 kc_X2_96 ?_
      refine v_icmp_gt (tgt := 189) dX2_maySetTo_182 (by decide) (fun c35 => ?_) (fun c35 => ?_)
      · replace h := ip_ c35 h
        refine v_iconst (v := 0) dX2_maySetTo_189 (by decide) ?_
        obtain rfl := Option.some.inj h
        exact v_zret dX2_maySetTo_190 rfl (Or.inl rfl) rfl
      · replace h := in_ c35 h
        refine v_iconst (v := 1) dX2_maySetTo_185 (by decide) ?_
        refine v_goto (tgt := 190) dX2_maySetTo_186 (by decide) ?_
        obtain rfl := Option.some.inj h
        exact v_zret dX2_maySetTo_190 rfl (Or.inr rfl) rfl

set_option maxRecDepth 20000 in
theorem kX2_maySetTo (N : Nat) (this : Nat) (p0 : Int32) (p1 : Int32) (f : HF) {r : Int32} (h : DX2_maySetTo N this p0 p1 f = some r) : ck f this 1 = some () := by
  unfold DX2_maySetTo at h
  obtain ⟨_, hck, _⟩ := ob_some h
  exact hck

set_option maxRecDepth 20000 in
theorem tX2_maySetTo {l : Launch} {g : GT} {sz : Option Nat} (N : Nat) (this : Nat) (p0 : Int32) (p1 : Int32) (f : HF) {r : Int32} (h : DX2_maySetTo N this p0 p1 f = some r) : Mt l g yX2_maySetTo cX2_maySetTo 3 (Option.some Jvm.ClassFile.FieldType.boolean) 1 [.ref this, .int p0, .int p1] f sz (roI (.inl r) f sz) := by
  unfold DX2_maySetTo at h
  obtain ⟨_, hck, h⟩ := ob_some h
  refine mt_of (by decide) (Nat.le_of_ble_eq_true rfl) (?_ : V l g (fun _ => True) (RX2, cX2_maySetTo, 3, (Option.some Jvm.ClassFile.FieldType.boolean), [], "maySetTo") 1 (roI (.inl r) f sz) 0 [(0, .ref this), (1, .int p0), (2, .int p1)] [] f sz 0 0)
  refine v_iload_n dX2_maySetTo_0 rfl rfl ?_
  by_cases c1 : p0 = 0
  · replace h := ip_ c1 h
    refine v_tableIn (tgt := 48) (off := 47) dX2_maySetTo_1 (by rw [c1] <;> decide) (by rw [c1] <;> decide) (by rw [c1] <;> rfl) (by decide) ?_
    refine v_aload_n dX2_maySetTo_48 rfl rfl ?_
    obtain ⟨x2, hx2, h⟩ := ob_some h
    refine v_getI dX2_maySetTo_49 fl_X2_48 hx2 ?_
    refine v_if_eq (tgt := 66) dX2_maySetTo_52 (by decide) (fun c6 => ?_) (fun c6 => ?_)
    · replace h := ip_ c6 h
      refine v_iconst (v := 0) dX2_maySetTo_66 (by decide) ?_
      obtain rfl := Option.some.inj h
      exact v_zret dX2_maySetTo_67 rfl (Or.inl rfl) rfl
    · replace h := in_ c6 h
      refine v_iload_n dX2_maySetTo_55 rfl rfl ?_
      obtain ⟨x3, hx4, h⟩ := ob_some h
      have ehx4 := tX2_isFlag (l := l) (g := g) (sz := sz) N p1 f hx4
      refine v_cSI dX2_maySetTo_56 ml_X2_77 ok_X2_isFlag ehx4 (by decide) rfl (rest := []) rfl (Nat.le_of_ble_eq_true rfl) ?_
      refine v_if_eq (tgt := 66) dX2_maySetTo_59 (by decide) (fun c5 => ?_) (fun c5 => ?_)
      · replace h := ip_ c5 h
        refine v_iconst (v := 0) dX2_maySetTo_66 (by decide) ?_
        obtain rfl := Option.some.inj h
        exact v_zret dX2_maySetTo_67 rfl (Or.inl rfl) rfl
      · replace h := in_ c5 h
        refine v_iconst (v := 1) dX2_maySetTo_62 (by decide) ?_
        refine v_goto (tgt := 67) dX2_maySetTo_63 (by decide) ?_
        obtain rfl := Option.some.inj h
        exact v_zret dX2_maySetTo_67 rfl (Or.inr rfl) rfl
  replace h := in_ c1 h
  by_cases c7 : p0 = 1
  · replace h := ip_ c7 h
    refine v_tableIn (tgt := 68) (off := 67) dX2_maySetTo_1 (by rw [c7] <;> decide) (by rw [c7] <;> decide) (by rw [c7] <;> rfl) (by decide) ?_
    refine v_aload_n dX2_maySetTo_68 rfl rfl ?_
    obtain ⟨x8, hx8, h⟩ := ob_some h
    refine v_getI dX2_maySetTo_69 fl_X2_48 hx8 ?_
    refine v_iconst (v := 1) dX2_maySetTo_72 (by decide) ?_
    refine v_icmp_ne (tgt := 101) dX2_maySetTo_73 (by decide) (fun c15 => ?_) (fun c15 => ?_)
    · replace h := in_ c15 h
      refine v_iconst (v := 0) dX2_maySetTo_101 (by decide) ?_
      obtain rfl := Option.some.inj h
      exact v_zret dX2_maySetTo_102 rfl (Or.inl rfl) rfl
    · replace h := ip_ c15 h
      refine v_iload_n dX2_maySetTo_76 rfl rfl ?_
      refine v_if_eq (tgt := 97) dX2_maySetTo_77 (by decide) (fun c14 => ?_) (fun c14 => ?_)
      · replace h := ip_ c14 h
        refine v_iconst (v := 1) dX2_maySetTo_97 (by decide) ?_
        refine v_goto (tgt := 102) dX2_maySetTo_98 (by decide) ?_
        obtain rfl := Option.some.inj h
        exact v_zret dX2_maySetTo_102 rfl (Or.inr rfl) rfl
      · replace h := in_ c14 h
        refine v_iload_n dX2_maySetTo_80 rfl rfl ?_
        refine v_aload_n dX2_maySetTo_81 rfl rfl ?_
        obtain ⟨x9, hx9, h⟩ := ob_some h
        refine v_getR dX2_maySetTo_82 fl_X2_20 hx9 ?_
        obtain ⟨x10, hx11, h⟩ := ob_some h
        have ehx11 := tX5_count (l := l) (g := g) (sz := sz) N x9 f hx11
        refine v_cVI dX2_maySetTo_85 ml_X2_83 ok_X5_count ehx11 (kX5_count N x9 f hx11) rfl (by decide) rfl (rest := [.int p1]) rfl (Nat.le_of_ble_eq_true rfl) ?_
        refine v_icmp_lt (tgt := 101) dX2_maySetTo_88 (by decide) (fun c13 => ?_) (fun c13 => ?_)
        · replace h := ip_ c13 h
          refine v_iconst (v := 0) dX2_maySetTo_101 (by decide) ?_
          obtain rfl := Option.some.inj h
          exact v_zret dX2_maySetTo_102 rfl (Or.inl rfl) rfl
        · replace h := in_ c13 h
          refine v_iload_n dX2_maySetTo_91 rfl rfl ?_
          refine v_bipush (v := 30) dX2_maySetTo_92 (by decide) ?_
          refine v_icmp_gt (tgt := 101) dX2_maySetTo_94 (by decide) (fun c12 => ?_) (fun c12 => ?_)
          · replace h := ip_ c12 h
            refine v_iconst (v := 0) dX2_maySetTo_101 (by decide) ?_
            obtain rfl := Option.some.inj h
            exact v_zret dX2_maySetTo_102 rfl (Or.inl rfl) rfl
          · replace h := in_ c12 h
            refine v_iconst (v := 1) dX2_maySetTo_97 (by decide) ?_
            refine v_goto (tgt := 102) dX2_maySetTo_98 (by decide) ?_
            obtain rfl := Option.some.inj h
            exact v_zret dX2_maySetTo_102 rfl (Or.inr rfl) rfl
  replace h := in_ c7 h
  by_cases c16 : p0 = 2
  · replace h := ip_ c16 h
    refine v_tableIn (tgt := 103) (off := 102) dX2_maySetTo_1 (by rw [c16] <;> decide) (by rw [c16] <;> decide) (by rw [c16] <;> rfl) (by decide) ?_
    refine v_aload_n dX2_maySetTo_103 rfl rfl ?_
    obtain ⟨x17, hx17, h⟩ := ob_some h
    refine v_getI dX2_maySetTo_104 fl_X2_48 hx17 ?_
    refine v_iconst (v := 3) dX2_maySetTo_107 (by decide) ?_
    refine v_icmp_ne (tgt := 122) dX2_maySetTo_108 (by decide) (fun c21 => ?_) (fun c21 => ?_)
    · replace h := in_ c21 h
      refine v_iconst (v := 0) dX2_maySetTo_122 (by decide) ?_
      obtain rfl := Option.some.inj h
      exact v_zret dX2_maySetTo_123 rfl (Or.inl rfl) rfl
    · replace h := ip_ c21 h
      refine v_iload_n dX2_maySetTo_111 rfl rfl ?_
      obtain ⟨x18, hx19, h⟩ := ob_some h
      have ehx19 := tX2_isFlag (l := l) (g := g) (sz := sz) N p1 f hx19
      refine v_cSI dX2_maySetTo_112 ml_X2_77 ok_X2_isFlag ehx19 (by decide) rfl (rest := []) rfl (Nat.le_of_ble_eq_true rfl) ?_
      refine v_if_eq (tgt := 122) dX2_maySetTo_115 (by decide) (fun c20 => ?_) (fun c20 => ?_)
      · replace h := ip_ c20 h
        refine v_iconst (v := 0) dX2_maySetTo_122 (by decide) ?_
        obtain rfl := Option.some.inj h
        exact v_zret dX2_maySetTo_123 rfl (Or.inl rfl) rfl
      · replace h := in_ c20 h
        refine v_iconst (v := 1) dX2_maySetTo_118 (by decide) ?_
        refine v_goto (tgt := 123) dX2_maySetTo_119 (by decide) ?_
        obtain rfl := Option.some.inj h
        exact v_zret dX2_maySetTo_123 rfl (Or.inr rfl) rfl
  replace h := in_ c16 h
  by_cases c22 : p0 = 3
  · replace h := ip_ c22 h
    refine v_tableIn (tgt := 124) (off := 123) dX2_maySetTo_1 (by rw [c22] <;> decide) (by rw [c22] <;> decide) (by rw [c22] <;> rfl) (by decide) ?_
    refine v_aload_n dX2_maySetTo_124 rfl rfl ?_
    obtain ⟨x23, hx23, h⟩ := ob_some h
    refine v_getI dX2_maySetTo_125 fl_X2_48 hx23 ?_
    refine v_iconst (v := 5) dX2_maySetTo_128 (by decide) ?_
    refine v_icmp_ne (tgt := 145) dX2_maySetTo_129 (by decide) (fun c26 => ?_) (fun c26 => ?_)
    · replace h := in_ c26 h
      refine v_iconst (v := 0) dX2_maySetTo_145 (by decide) ?_
      obtain rfl := Option.some.inj h
      exact v_zret dX2_maySetTo_146 rfl (Or.inl rfl) rfl
    · replace h := ip_ c26 h
      refine v_iload_n dX2_maySetTo_132 rfl rfl ?_
      refine v_if_lt (tgt := 145) dX2_maySetTo_133 (by decide) (fun c25 => ?_) (fun c25 => ?_)
      · replace h := ip_ c25 h
        refine v_iconst (v := 0) dX2_maySetTo_145 (by decide) ?_
        obtain rfl := Option.some.inj h
        exact v_zret dX2_maySetTo_146 rfl (Or.inl rfl) rfl
      · replace h := in_ c25 h
        refine v_iload_n dX2_maySetTo_136 rfl rfl ?_
        refine v_iconst (v := 3) dX2_maySetTo_137 (by decide) ?_
        refine v_icmp_gt (tgt := 145) dX2_maySetTo_138 (by decide) (fun c24 => ?_) (fun c24 => ?_)
        · replace h := ip_ c24 h
          refine v_iconst (v := 0) dX2_maySetTo_145 (by decide) ?_
          obtain rfl := Option.some.inj h
          exact v_zret dX2_maySetTo_146 rfl (Or.inl rfl) rfl
        · replace h := in_ c24 h
          refine v_iconst (v := 1) dX2_maySetTo_141 (by decide) ?_
          refine v_goto (tgt := 146) dX2_maySetTo_142 (by decide) ?_
          obtain rfl := Option.some.inj h
          exact v_zret dX2_maySetTo_146 rfl (Or.inr rfl) rfl
  replace h := in_ c22 h
  by_cases c27 : p0 = 4
  · replace h := ip_ c27 h
    refine v_tableIn (tgt := 147) (off := 146) dX2_maySetTo_1 (by rw [c27] <;> decide) (by rw [c27] <;> decide) (by rw [c27] <;> rfl) (by decide) ?_
    refine v_aload_n dX2_maySetTo_147 rfl rfl ?_
    obtain ⟨x28, hx28, h⟩ := ob_some h
    refine v_getI dX2_maySetTo_148 fl_X2_48 hx28 ?_
    refine v_iconst (v := 5) dX2_maySetTo_151 (by decide) ?_
    refine v_icmp_ne (tgt := 166) dX2_maySetTo_152 (by decide) (fun c32 => ?_) (fun c32 => ?_)
    · replace h := in_ c32 h
      refine v_iconst (v := 0) dX2_maySetTo_166 (by decide) ?_
      obtain rfl := Option.some.inj h
      exact v_zret dX2_maySetTo_167 rfl (Or.inl rfl) rfl
    · replace h := ip_ c32 h
      refine v_iload_n dX2_maySetTo_155 rfl rfl ?_
      obtain ⟨x29, hx30, h⟩ := ob_some h
      have ehx30 := tX2_isFlag (l := l) (g := g) (sz := sz) N p1 f hx30
      refine v_cSI dX2_maySetTo_156 ml_X2_77 ok_X2_isFlag ehx30 (by decide) rfl (rest := []) rfl (Nat.le_of_ble_eq_true rfl) ?_
      refine v_if_eq (tgt := 166) dX2_maySetTo_159 (by decide) (fun c31 => ?_) (fun c31 => ?_)
      · replace h := ip_ c31 h
        refine v_iconst (v := 0) dX2_maySetTo_166 (by decide) ?_
        obtain rfl := Option.some.inj h
        exact v_zret dX2_maySetTo_167 rfl (Or.inl rfl) rfl
      · replace h := in_ c31 h
        refine v_iconst (v := 1) dX2_maySetTo_162 (by decide) ?_
        refine v_goto (tgt := 167) dX2_maySetTo_163 (by decide) ?_
        obtain rfl := Option.some.inj h
        exact v_zret dX2_maySetTo_167 rfl (Or.inr rfl) rfl
  replace h := in_ c27 h
  by_cases c33 : p0 = 5
  · replace h := ip_ c33 h
    refine v_tableIn (tgt := 168) (off := 167) dX2_maySetTo_1 (by rw [c33] <;> decide) (by rw [c33] <;> decide) (by rw [c33] <;> rfl) (by decide) ?_
    exact v_sub (vs_c rfl (vs_c rfl vs_n)) (tX2_maySetTo_168 N f this p1 h)
  replace h := in_ c33 h
  by_cases c38 : p0 = 6
  · replace h := ip_ c38 h
    refine v_tableIn (tgt := 168) (off := 167) dX2_maySetTo_1 (by rw [c38] <;> decide) (by rw [c38] <;> decide) (by rw [c38] <;> rfl) (by decide) ?_
    exact v_sub (vs_c rfl (vs_c rfl vs_n)) (tX2_maySetTo_168 N f this p1 h)
  replace h := in_ c38 h
  by_cases c39 : p0 = 7
  · replace h := ip_ c39 h
    refine v_tableIn (tgt := 191) (off := 190) dX2_maySetTo_1 (by rw [c39] <;> decide) (by rw [c39] <;> decide) (by rw [c39] <;> rfl) (by decide) ?_
    refine v_aload_n dX2_maySetTo_191 rfl rfl ?_
    obtain ⟨x40, hx40, h⟩ := ob_some h
    refine v_getI dX2_maySetTo_192 fl_X2_48 hx40 ?_
    refine v_if_eq (tgt := 211) dX2_maySetTo_195 (by decide) (fun c43 => ?_) (fun c43 => ?_)
    · replace h := ip_ c43 h
      refine v_iconst (v := 0) dX2_maySetTo_211 (by decide) ?_
      obtain rfl := Option.some.inj h
      exact v_zret dX2_maySetTo_212 rfl (Or.inl rfl) rfl
    · replace h := in_ c43 h
      refine v_iload_n dX2_maySetTo_198 rfl rfl ?_
      refine v_if_lt (tgt := 211) dX2_maySetTo_199 (by decide) (fun c42 => ?_) (fun c42 => ?_)
      · replace h := ip_ c42 h
        refine v_iconst (v := 0) dX2_maySetTo_211 (by decide) ?_
        obtain rfl := Option.some.inj h
        exact v_zret dX2_maySetTo_212 rfl (Or.inl rfl) rfl
      · replace h := in_ c42 h
        refine v_iload_n dX2_maySetTo_202 rfl rfl ?_
        refine v_iconst (v := 2) dX2_maySetTo_203 (by decide) ?_
        refine v_icmp_gt (tgt := 211) dX2_maySetTo_204 (by decide) (fun c41 => ?_) (fun c41 => ?_)
        · replace h := ip_ c41 h
          refine v_iconst (v := 0) dX2_maySetTo_211 (by decide) ?_
          obtain rfl := Option.some.inj h
          exact v_zret dX2_maySetTo_212 rfl (Or.inl rfl) rfl
        · replace h := in_ c41 h
          refine v_iconst (v := 1) dX2_maySetTo_207 (by decide) ?_
          refine v_goto (tgt := 212) dX2_maySetTo_208 (by decide) ?_
          obtain rfl := Option.some.inj h
          exact v_zret dX2_maySetTo_212 rfl (Or.inr rfl) rfl
  replace h := in_ c39 h
  refine v_tableOut (tgt := 213) dX2_maySetTo_1 (tsw_out p0 0 7 (fun z z1 z2 => by
    rcases (show z = 0 ∨ z = 1 ∨ z = 2 ∨ z = 3 ∨ z = 4 ∨ z = 5 ∨ z = 6 ∨ z = 7 by omega) with rfl | rfl | rfl | rfl | rfl | rfl | rfl | rfl
    · exact c1
    · exact c7
    · exact c16
    · exact c22
    · exact c27
    · exact c33
    · exact c38
    · exact c39
    )) (by decide) ?_
  refine v_iconst (v := 0) dX2_maySetTo_213 (by decide) ?_
  obtain rfl := Option.some.inj h
  exact v_zret dX2_maySetTo_214 rfl (Or.inl rfl) rfl

/-! X2 change (W) -/
def DX2_change (N : Nat) (this : Nat) (p0 : Int32) (p1 : Int32) (f : HF) : Option (Int32 × HF) :=
  (ck f this 1).bind fun _ =>
  if p0 < 0 then
    some ((-1 : Int32), f)
  else
    (gR f this 1 7).bind fun x1 =>
    (aLen f x1 0).bind fun x2 =>
    if p0 < x2 then
      (gR f this 1 7).bind fun x3 =>
      (aI f x3 0 p0).bind fun x4 =>
      (gR f this 1 7).bind fun x5 =>
      (sI f x5 0 p0 p1).bind fun f6 =>
      some (x4, f6)
    else
      some ((-1 : Int32), f)

set_option maxRecDepth 20000 in
theorem kX2_change (N : Nat) (this : Nat) (p0 : Int32) (p1 : Int32) (f : HF) {r : (Int32 × HF)} (h : DX2_change N this p0 p1 f = some r) : ck f this 1 = some () := by
  unfold DX2_change at h
  obtain ⟨_, hck, _⟩ := ob_some h
  exact hck

set_option maxRecDepth 20000 in
theorem tX2_change {l : Launch} {g : GT} {sz : Option Nat} (N : Nat) (this : Nat) (p0 : Int32) (p1 : Int32) (f : HF) {r : (Int32 × HF)} (h : DX2_change N this p0 p1 f = some r) : Mt l g yX2_change cX2_change 4 (Option.some Jvm.ClassFile.FieldType.int) 0 [.ref this, .int p0, .int p1] f sz (roI (.inl r.1) r.2 sz) := by
  unfold DX2_change at h
  obtain ⟨_, hck, h⟩ := ob_some h
  refine mt_of (by decide) (Nat.le_of_ble_eq_true rfl) (?_ : V l g (fun _ => True) (RX2, cX2_change, 4, (Option.some Jvm.ClassFile.FieldType.int), [], "change") 0 (roI (.inl r.1) r.2 sz) 0 [(0, .ref this), (1, .int p0), (2, .int p1)] [] f sz 0 0)
  refine v_iload_n dX2_change_0 rfl rfl ?_
  refine v_if_lt (tgt := 13) dX2_change_1 (by decide) (fun c8 => ?_) (fun c8 => ?_)
  · replace h := ip_ c8 h
    refine v_iconst (v := -1) dX2_change_13 (by decide) ?_
    obtain rfl := Option.some.inj h
    exact v_iret dX2_change_14 rfl rfl
  · replace h := in_ c8 h
    refine v_iload_n dX2_change_4 rfl rfl ?_
    refine v_aload_n dX2_change_5 rfl rfl ?_
    obtain ⟨x1, hx1, h⟩ := ob_some h
    refine v_getR dX2_change_6 fl_X2_9 hx1 ?_
    obtain ⟨x2, hx2, h⟩ := ob_some h
    refine v_alen dX2_change_9 rfl hx2 ?_
    refine v_icmp_lt (tgt := 15) dX2_change_10 (by decide) (fun c7 => ?_) (fun c7 => ?_)
    · replace h := ip_ c7 h
      refine v_aload_n dX2_change_15 rfl rfl ?_
      obtain ⟨x3, hx3, h⟩ := ob_some h
      refine v_getR dX2_change_16 fl_X2_9 hx3 ?_
      refine v_iload_n dX2_change_19 rfl rfl ?_
      obtain ⟨x4, hx4, h⟩ := ob_some h
      refine v_iald dX2_change_20 hx4 ?_
      refine v_istore_n (ls1 := [(3, .int x4), (0, .ref this), (1, .int p0), (2, .int p1)]) dX2_change_21 rfl (by decide) rfl ?_
      refine v_aload_n dX2_change_22 rfl rfl ?_
      obtain ⟨x5, hx5, h⟩ := ob_some h
      refine v_getR dX2_change_23 fl_X2_9 hx5 ?_
      refine v_iload_n dX2_change_26 rfl rfl ?_
      refine v_iload_n dX2_change_27 rfl rfl ?_
      obtain ⟨f6, hf6, h⟩ := ob_some h
      refine v_iast dX2_change_28 hf6 ?_
      refine v_iload_n dX2_change_29 rfl rfl ?_
      obtain rfl := Option.some.inj h
      exact v_iret dX2_change_30 rfl rfl
    · replace h := in_ c7 h
      refine v_iconst (v := -1) dX2_change_13 (by decide) ?_
      obtain rfl := Option.some.inj h
      exact v_iret dX2_change_14 rfl rfl

/-! X2 isEmpty (R) -/
def DX2_isEmpty_40 (N : Nat) (f : HF)  (s0 : Int32) (s1 : Int32) : Option Int32 :=
    if s0 = s1 then
      some (1 : Int32)
    else
      some (0 : Int32)

def DX2_isEmpty (N : Nat) (this : Nat) (f : HF) : Option Int32 :=
  (ck f this 1).bind fun _ =>
  (DX2_hasSigns N this f).bind fun x1 =>
  if x1 = 0 then
    (gI f this 1 10).bind fun x3 =>
    (gI f this 1 1).bind fun x4 =>
    if x4 = (2 : Int32) then
      DX2_isEmpty_40 N f x3 (0 : Int32)
    else
      DX2_isEmpty_40 N f x3 (-1 : Int32)
  else
    (gR f this 1 8).bind fun x7 =>
    (DX5_count N x7 f).bind fun x8 =>
    if x8 = 0 then
      some (1 : Int32)
    else
      some (0 : Int32)

set_option maxRecDepth 20000 in
theorem tX2_isEmpty_40 {l : Launch} {g : GT} {sz : Option Nat} (N : Nat) (f : HF)  {r : Int32} : ∀ (s0 : Int32) (s1 : Int32), DX2_isEmpty_40 N f s0 s1 = some r → V l g (fun _ => True) (RX2, cX2_isEmpty, 1, (Option.some Jvm.ClassFile.FieldType.boolean), [], "isEmpty") 1 (roI (.inl r) f sz) 40 [] [.int s1, .int s0] f sz 0 0 := by
  intro s0 s1 h
  unfold DX2_isEmpty_40 at h
  refine v_icmp_ne (tgt := 47) dX2_isEmpty_40 (by decide) (fun c5 => ?_) (fun c5 => ?_)
  · replace h := in_ c5 h
    refine v_iconst (v := 0) dX2_isEmpty_47 (by decide) ?_
    obtain rfl := Option.some.inj h
    exact v_zret dX2_isEmpty_48 rfl (Or.inl rfl) rfl
  · replace h := ip_ c5 h
    refine v_iconst (v := 1) dX2_isEmpty_43 (by decide) ?_
    refine v_goto (tgt := 48) dX2_isEmpty_44 (by decide) ?_
    obtain rfl := Option.some.inj h
    exact v_zret dX2_isEmpty_48 rfl (Or.inr rfl) rfl

set_option maxRecDepth 20000 in
theorem kX2_isEmpty (N : Nat) (this : Nat) (f : HF) {r : Int32} (h : DX2_isEmpty N this f = some r) : ck f this 1 = some () := by
  unfold DX2_isEmpty at h
  obtain ⟨_, hck, _⟩ := ob_some h
  exact hck

set_option maxRecDepth 20000 in
theorem tX2_isEmpty {l : Launch} {g : GT} {sz : Option Nat} (N : Nat) (this : Nat) (f : HF) {r : Int32} (h : DX2_isEmpty N this f = some r) : Mt l g yX2_isEmpty cX2_isEmpty 1 (Option.some Jvm.ClassFile.FieldType.boolean) 1 [.ref this] f sz (roI (.inl r) f sz) := by
  unfold DX2_isEmpty at h
  obtain ⟨_, hck, h⟩ := ob_some h
  refine mt_of (by decide) (Nat.le_of_ble_eq_true rfl) (?_ : V l g (fun _ => True) (RX2, cX2_isEmpty, 1, (Option.some Jvm.ClassFile.FieldType.boolean), [], "isEmpty") 1 (roI (.inl r) f sz) 0 [(0, .ref this)] [] f sz 0 0)
  refine v_aload_n dX2_isEmpty_0 rfl rfl ?_
  obtain ⟨x1, hx2, h⟩ := ob_some h
  have ehx2 := tX2_hasSigns (l := l) (g := g) (sz := sz) N this f hx2
  refine v_cVI dX2_isEmpty_1 ml_X2_64 ok_X2_hasSigns ehx2 (kX2_hasSigns N this f hx2) rfl (by decide) rfl (rest := []) rfl (Nat.le_of_ble_eq_true rfl) ?_
  refine v_if_eq (tgt := 23) dX2_isEmpty_4 (by decide) (fun c11 => ?_) (fun c11 => ?_)
  · replace h := ip_ c11 h
    refine v_aload_n dX2_isEmpty_23 rfl rfl ?_
    obtain ⟨x3, hx3, h⟩ := ob_some h
    refine v_getI dX2_isEmpty_24 fl_X2_61 hx3 ?_
    refine v_aload_n dX2_isEmpty_27 rfl rfl ?_
    obtain ⟨x4, hx4, h⟩ := ob_some h
    refine v_getI dX2_isEmpty_28 fl_X2_48 hx4 ?_
    refine v_iconst (v := 2) dX2_isEmpty_31 (by decide) ?_
    refine v_icmp_ne (tgt := 39) dX2_isEmpty_32 (by decide) (fun c6 => ?_) (fun c6 => ?_)
    · replace h := in_ c6 h
      refine v_iconst (v := -1) dX2_isEmpty_39 (by decide) ?_
      exact v_sub (vs_n) (tX2_isEmpty_40 N f x3 (-1 : Int32) h)
    · replace h := ip_ c6 h
      refine v_iconst (v := 0) dX2_isEmpty_35 (by decide) ?_
      refine v_goto (tgt := 40) dX2_isEmpty_36 (by decide) ?_
      exact v_sub (vs_n) (tX2_isEmpty_40 N f x3 (0 : Int32) h)
  · replace h := in_ c11 h
    refine v_aload_n dX2_isEmpty_7 rfl rfl ?_
    obtain ⟨x7, hx7, h⟩ := ob_some h
    refine v_getR dX2_isEmpty_8 fl_X2_20 hx7 ?_
    obtain ⟨x8, hx9, h⟩ := ob_some h
    have ehx9 := tX5_count (l := l) (g := g) (sz := sz) N x7 f hx9
    refine v_cVI dX2_isEmpty_11 ml_X2_83 ok_X5_count ehx9 (kX5_count N x7 f hx9) rfl (by decide) rfl (rest := []) rfl (Nat.le_of_ble_eq_true rfl) ?_
    refine v_if_ne (tgt := 21) dX2_isEmpty_14 (by decide) (fun c10 => ?_) (fun c10 => ?_)
    · replace h := in_ c10 h
      refine v_iconst (v := 0) dX2_isEmpty_21 (by decide) ?_
      obtain rfl := Option.some.inj h
      exact v_zret dX2_isEmpty_22 rfl (Or.inl rfl) rfl
    · replace h := ip_ c10 h
      refine v_iconst (v := 1) dX2_isEmpty_17 (by decide) ?_
      refine v_goto (tgt := 22) dX2_isEmpty_18 (by decide) ?_
      obtain rfl := Option.some.inj h
      exact v_zret dX2_isEmpty_22 rfl (Or.inr rfl) rfl

