/-! X1 canBeReckoned (R) -/
def DX1_canBeReckoned (N : Nat) (p0 : Nat) (f : HF) : Option Int32 :=
  (gI f p0 1 1).bind fun x1 =>
  if x1 = (5 : Int32) then
    some (1 : Int32)
  else
    (gI f p0 1 1).bind fun x2 =>
    if x2 = (2 : Int32) then
      some (1 : Int32)
    else
      some (0 : Int32)

set_option maxRecDepth 20000 in
theorem tX1_canBeReckoned {l : Launch} {g : GT} {sz : Option Nat} (N : Nat) (p0 : Nat) (f : HF) {r : Int32} (h : DX1_canBeReckoned N p0 f = some r) : Mt l g yX1_canBeReckoned cX1_canBeReckoned 1 (Option.some Jvm.ClassFile.FieldType.boolean) 0 [.ref p0] f sz (roI (.inl r) f sz) := by
  unfold DX1_canBeReckoned at h
  refine mt_of (by decide) (Nat.le_of_ble_eq_true rfl) (?_ : V l g (fun _ => True) (RX1, cX1_canBeReckoned, 1, (Option.some Jvm.ClassFile.FieldType.boolean), [], "canBeReckoned") 0 (roI (.inl r) f sz) 0 [(0, .ref p0)] [] f sz 0 0)
  refine v_aload_n dX1_canBeReckoned_0 rfl rfl ?_
  obtain ⟨x1, hx1, h⟩ := ob_some h
  refine v_getI dX1_canBeReckoned_1 fl_X1_44 hx1 ?_
  refine v_iconst (v := 5) dX1_canBeReckoned_4 (by decide) ?_
  refine v_icmp_eq (tgt := 16) dX1_canBeReckoned_5 (by decide) (fun c4 => ?_) (fun c4 => ?_)
  · replace h := ip_ c4 h
    refine v_iconst (v := 1) dX1_canBeReckoned_16 (by decide) ?_
    refine v_goto (tgt := 21) dX1_canBeReckoned_17 (by decide) ?_
    obtain rfl := Option.some.inj h
    exact v_zret dX1_canBeReckoned_21 rfl (Or.inr rfl) rfl
  · replace h := in_ c4 h
    refine v_aload_n dX1_canBeReckoned_8 rfl rfl ?_
    obtain ⟨x2, hx2, h⟩ := ob_some h
    refine v_getI dX1_canBeReckoned_9 fl_X1_44 hx2 ?_
    refine v_iconst (v := 2) dX1_canBeReckoned_12 (by decide) ?_
    refine v_icmp_ne (tgt := 20) dX1_canBeReckoned_13 (by decide) (fun c3 => ?_) (fun c3 => ?_)
    · replace h := in_ c3 h
      refine v_iconst (v := 0) dX1_canBeReckoned_20 (by decide) ?_
      obtain rfl := Option.some.inj h
      exact v_zret dX1_canBeReckoned_21 rfl (Or.inl rfl) rfl
    · replace h := ip_ c3 h
      refine v_iconst (v := 1) dX1_canBeReckoned_16 (by decide) ?_
      refine v_goto (tgt := 21) dX1_canBeReckoned_17 (by decide) ?_
      obtain rfl := Option.some.inj h
      exact v_zret dX1_canBeReckoned_21 rfl (Or.inr rfl) rfl

/-! X1 mayWorkWith (RT) -/
def DX1_mayWorkWith_51 (N : Nat) (f : HF)  (v0 : Nat) (v1 : Int32) (v2 : Int32) : Option (Int32 ⊕ String) :=
    if v1 = (6 : Int32) then
      (gR f v0 0 0).bind fun x3 =>
      bRT (DX6_get N x3 v2 f) fun x4 =>
      (gI f x4 1 1).bind fun x6 =>
      if x6 = 0 then
        some (.inl (1 : Int32))
      else
        some (.inl (0 : Int32))
    else
      if v1 = (7 : Int32) then
        some (.inl (1 : Int32))
      else
        if v1 = (-1 : Int32) then
          some (.inl (1 : Int32))
        else
          some (.inl (0 : Int32))

def DX1_mayWorkWith (N : Nat) (this : Nat) (p0 : Int32) (p1 : Int32) (p2 : Int32) (f : HF) : Option (Int32 ⊕ String) :=
  (ck f this 0).bind fun _ =>
  if p0 < 0 then
    DX1_mayWorkWith_51 N f this p0 p1
  else
    if (5 : Int32) < p0 then
      DX1_mayWorkWith_51 N f this p0 p1
    else
      (gR f this 0 0).bind fun x9 =>
      bRT (DX6_get N x9 p1 f) fun x10 =>
      (gR f this 0 0).bind fun x12 =>
      bRT (DX6_get N x12 p2 f) fun x13 =>
      (DX1_canBeReckoned N x10 f).bind fun x15 =>
      if x15 = 0 then
        some (.inl (0 : Int32))
      else
        (DX1_canBeReckoned N x13 f).bind fun x17 =>
        if x17 = 0 then
          some (.inl (0 : Int32))
        else
          some (.inl (1 : Int32))

set_option maxRecDepth 20000 in
theorem tX1_mayWorkWith_51 {l : Launch} {g : GT} {sz : Option Nat} (N : Nat) (f : HF)  {r : (Int32 ⊕ String)} : ∀ (v0 : Nat) (v1 : Int32) (v2 : Int32), DX1_mayWorkWith_51 N f v0 v1 v2 = some r → V l g (fun _ => True) (RX1, cX1_mayWorkWith, 6, (Option.some Jvm.ClassFile.FieldType.boolean), [], "mayWorkWith") 9 (roI r f sz) 51 [(0, .ref v0), (1, .int v1), (2, .int v2)] [] f sz 0 0 := by
  intro v0 v1 v2 h
  unfold DX1_mayWorkWith_51 at h
  refine v_iload_n dX1_mayWorkWith_51 rfl rfl ?_
  refine v_bipush (v := 6) dX1_mayWorkWith_52 (by decide) ?_
  refine v_icmp_ne (tgt := 77) dX1_mayWorkWith_54 (by decide) (fun c8 => ?_) (fun c8 => ?_)
  · replace h := in_ c8 h
    refine v_iload_n dX1_mayWorkWith_77 rfl rfl ?_
    refine v_bipush (v := 7) dX1_mayWorkWith_78 (by decide) ?_
    refine v_icmp_eq (tgt := 88) dX1_mayWorkWith_80 (by decide) (fun c2 => ?_) (fun c2 => ?_)
    · replace h := ip_ c2 h
      refine v_iconst (v := 1) dX1_mayWorkWith_88 (by decide) ?_
      refine v_goto (tgt := 93) dX1_mayWorkWith_89 (by decide) ?_
      obtain rfl := Option.some.inj h
      exact v_zret dX1_mayWorkWith_93 rfl (Or.inr rfl) rfl
    · replace h := in_ c2 h
      refine v_iload_n dX1_mayWorkWith_83 rfl rfl ?_
      refine v_iconst (v := -1) dX1_mayWorkWith_84 (by decide) ?_
      refine v_icmp_ne (tgt := 92) dX1_mayWorkWith_85 (by decide) (fun c1 => ?_) (fun c1 => ?_)
      · replace h := in_ c1 h
        refine v_iconst (v := 0) dX1_mayWorkWith_92 (by decide) ?_
        obtain rfl := Option.some.inj h
        exact v_zret dX1_mayWorkWith_93 rfl (Or.inl rfl) rfl
      · replace h := ip_ c1 h
        refine v_iconst (v := 1) dX1_mayWorkWith_88 (by decide) ?_
        refine v_goto (tgt := 93) dX1_mayWorkWith_89 (by decide) ?_
        obtain rfl := Option.some.inj h
        exact v_zret dX1_mayWorkWith_93 rfl (Or.inr rfl) rfl
  · replace h := ip_ c8 h
    refine v_aload_n dX1_mayWorkWith_57 rfl rfl ?_
    obtain ⟨x3, hx3, h⟩ := ob_some h
    refine v_getR dX1_mayWorkWith_58 fl_X1_30 hx3 ?_
    refine v_iload_n dX1_mayWorkWith_61 rfl rfl ?_
    rcases bRT_some h with ⟨x4, hx5, h⟩ | ⟨e9, hx5, h⟩
    rotate_left
    · cases h
      have ehx5 := tX6_get (l := l) (g := g) (sz := sz) N x3 v2 f hx5
      exact v_cVx dX1_mayWorkWith_62 ml_X1_34 ok_X6_get ehx5 (kX6_get N x3 v2 f hx5) rfl (by decide) rfl (rest := []) rfl (Nat.le_of_ble_eq_true rfl) rfl rfl
    have ehx5 := tX6_get (l := l) (g := g) (sz := sz) N x3 v2 f hx5
    refine v_cVR dX1_mayWorkWith_62 ml_X1_34 ok_X6_get ehx5 (kX6_get N x3 v2 f hx5) rfl (by decide) rfl (rest := []) rfl (Nat.le_of_ble_eq_true rfl) ?_
    obtain ⟨x6, hx6, h⟩ := ob_some h
    refine v_getI dX1_mayWorkWith_65 fl_X1_44 hx6 ?_
    refine v_if_ne (tgt := 75) dX1_mayWorkWith_68 (by decide) (fun c7 => ?_) (fun c7 => ?_)
    · replace h := in_ c7 h
      refine v_iconst (v := 0) dX1_mayWorkWith_75 (by decide) ?_
      obtain rfl := Option.some.inj h
      exact v_zret dX1_mayWorkWith_76 rfl (Or.inl rfl) rfl
    · replace h := ip_ c7 h
      refine v_iconst (v := 1) dX1_mayWorkWith_71 (by decide) ?_
      refine v_goto (tgt := 76) dX1_mayWorkWith_72 (by decide) ?_
      obtain rfl := Option.some.inj h
      exact v_zret dX1_mayWorkWith_76 rfl (Or.inr rfl) rfl

set_option maxRecDepth 20000 in
theorem kX1_mayWorkWith (N : Nat) (this : Nat) (p0 : Int32) (p1 : Int32) (p2 : Int32) (f : HF) {r : (Int32 ⊕ String)} (h : DX1_mayWorkWith N this p0 p1 p2 f = some r) : ck f this 0 = some () := by
  unfold DX1_mayWorkWith at h
  obtain ⟨_, hck, _⟩ := ob_some h
  exact hck

set_option maxRecDepth 20000 in
theorem tX1_mayWorkWith {l : Launch} {g : GT} {sz : Option Nat} (N : Nat) (this : Nat) (p0 : Int32) (p1 : Int32) (p2 : Int32) (f : HF) {r : (Int32 ⊕ String)} (h : DX1_mayWorkWith N this p0 p1 p2 f = some r) : Mt l g yX1_mayWorkWith cX1_mayWorkWith 6 (Option.some Jvm.ClassFile.FieldType.boolean) 9 [.ref this, .int p0, .int p1, .int p2] f sz (roI r f sz) := by
  unfold DX1_mayWorkWith at h
  obtain ⟨_, hck, h⟩ := ob_some h
  refine mt_of (by decide) (Nat.le_of_ble_eq_true rfl) (?_ : V l g (fun _ => True) (RX1, cX1_mayWorkWith, 6, (Option.some Jvm.ClassFile.FieldType.boolean), [], "mayWorkWith") 9 (roI r f sz) 0 [(0, .ref this), (1, .int p0), (2, .int p1), (3, .int p2)] [] f sz 0 0)
  refine v_iload_n dX1_mayWorkWith_0 rfl rfl ?_
  refine v_if_lt (tgt := 51) dX1_mayWorkWith_1 (by decide) (fun c22 => ?_) (fun c22 => ?_)
  · replace h := ip_ c22 h
    exact v_sub (vs_c rfl (vs_c rfl (vs_c rfl vs_n))) (tX1_mayWorkWith_51 N f this p0 p1 h)
  · replace h := in_ c22 h
    refine v_iload_n dX1_mayWorkWith_4 rfl rfl ?_
    refine v_iconst (v := 5) dX1_mayWorkWith_5 (by decide) ?_
    refine v_icmp_gt (tgt := 51) dX1_mayWorkWith_6 (by decide) (fun c21 => ?_) (fun c21 => ?_)
    · replace h := ip_ c21 h
      exact v_sub (vs_c rfl (vs_c rfl (vs_c rfl vs_n))) (tX1_mayWorkWith_51 N f this p0 p1 h)
    · replace h := in_ c21 h
      refine v_aload_n dX1_mayWorkWith_9 rfl rfl ?_
      obtain ⟨x9, hx9, h⟩ := ob_some h
      refine v_getR dX1_mayWorkWith_10 fl_X1_30 hx9 ?_
      refine v_iload_n dX1_mayWorkWith_13 rfl rfl ?_
      rcases bRT_some h with ⟨x10, hx11, h⟩ | ⟨e9, hx11, h⟩
      rotate_left
      · cases h
        have ehx11 := tX6_get (l := l) (g := g) (sz := sz) N x9 p1 f hx11
        exact v_cVx dX1_mayWorkWith_14 ml_X1_34 ok_X6_get ehx11 (kX6_get N x9 p1 f hx11) rfl (by decide) rfl (rest := []) rfl (Nat.le_of_ble_eq_true rfl) rfl rfl
      have ehx11 := tX6_get (l := l) (g := g) (sz := sz) N x9 p1 f hx11
      refine v_cVR dX1_mayWorkWith_14 ml_X1_34 ok_X6_get ehx11 (kX6_get N x9 p1 f hx11) rfl (by decide) rfl (rest := []) rfl (Nat.le_of_ble_eq_true rfl) ?_
      refine v_astore (ls1 := [(4, .ref x10), (0, .ref this), (1, .int p0), (2, .int p1), (3, .int p2)]) dX1_mayWorkWith_17 (by decide) rfl ?_
      refine v_aload_n dX1_mayWorkWith_19 rfl rfl ?_
      obtain ⟨x12, hx12, h⟩ := ob_some h
      refine v_getR dX1_mayWorkWith_20 fl_X1_30 hx12 ?_
      refine v_iload_n dX1_mayWorkWith_23 rfl rfl ?_
      rcases bRT_some h with ⟨x13, hx14, h⟩ | ⟨e9, hx14, h⟩
      rotate_left
      · cases h
        have ehx14 := tX6_get (l := l) (g := g) (sz := sz) N x12 p2 f hx14
        exact v_cVx dX1_mayWorkWith_24 ml_X1_34 ok_X6_get ehx14 (kX6_get N x12 p2 f hx14) rfl (by decide) rfl (rest := []) rfl (Nat.le_of_ble_eq_true rfl) rfl rfl
      have ehx14 := tX6_get (l := l) (g := g) (sz := sz) N x12 p2 f hx14
      refine v_cVR dX1_mayWorkWith_24 ml_X1_34 ok_X6_get ehx14 (kX6_get N x12 p2 f hx14) rfl (by decide) rfl (rest := []) rfl (Nat.le_of_ble_eq_true rfl) ?_
      refine v_astore (ls1 := [(5, .ref x13), (4, .ref x10), (0, .ref this), (1, .int p0), (2, .int p1), (3, .int p2)]) dX1_mayWorkWith_27 (by decide) rfl ?_
      refine v_aload dX1_mayWorkWith_29 rfl ?_
      obtain ⟨x15, hx16, h⟩ := ob_some h
      have ehx16 := tX1_canBeReckoned (l := l) (g := g) (sz := sz) N x10 f hx16
      refine v_cSI dX1_mayWorkWith_31 ml_X1_40 ok_X1_canBeReckoned ehx16 (by decide) rfl (rest := []) rfl (Nat.le_of_ble_eq_true rfl) ?_
      refine v_if_eq (tgt := 49) dX1_mayWorkWith_34 (by decide) (fun c20 => ?_) (fun c20 => ?_)
      · replace h := ip_ c20 h
        refine v_iconst (v := 0) dX1_mayWorkWith_49 (by decide) ?_
        obtain rfl := Option.some.inj h
        exact v_zret dX1_mayWorkWith_50 rfl (Or.inl rfl) rfl
      · replace h := in_ c20 h
        refine v_aload dX1_mayWorkWith_37 rfl ?_
        obtain ⟨x17, hx18, h⟩ := ob_some h
        have ehx18 := tX1_canBeReckoned (l := l) (g := g) (sz := sz) N x13 f hx18
        refine v_cSI dX1_mayWorkWith_39 ml_X1_40 ok_X1_canBeReckoned ehx18 (by decide) rfl (rest := []) rfl (Nat.le_of_ble_eq_true rfl) ?_
        refine v_if_eq (tgt := 49) dX1_mayWorkWith_42 (by decide) (fun c19 => ?_) (fun c19 => ?_)
        · replace h := ip_ c19 h
          refine v_iconst (v := 0) dX1_mayWorkWith_49 (by decide) ?_
          obtain rfl := Option.some.inj h
          exact v_zret dX1_mayWorkWith_50 rfl (Or.inl rfl) rfl
        · replace h := in_ c19 h
          refine v_iconst (v := 1) dX1_mayWorkWith_45 (by decide) ?_
          refine v_goto (tgt := 50) dX1_mayWorkWith_46 (by decide) ?_
          obtain rfl := Option.some.inj h
          exact v_zret dX1_mayWorkWith_50 rfl (Or.inr rfl) rfl

/-! X1 bit (R) -/
def DX1_bit (N : Nat) (p0 : Int32) (f : HF) : Option Int64 :=
  some ((1 : Int64) <<< (p0.toInt64 &&& 63))

set_option maxRecDepth 20000 in
theorem tX1_bit {l : Launch} {g : GT} {sz : Option Nat} (N : Nat) (p0 : Int32) (f : HF) {r : Int64} (h : DX1_bit N p0 f = some r) : Mt l g yX1_bit cX1_bit 1 (Option.some Jvm.ClassFile.FieldType.long) 0 [.int p0] f sz (roL (.inl r) f sz) := by
  unfold DX1_bit at h
  refine mt_of (by decide) (Nat.le_of_ble_eq_true rfl) (?_ : V l g (fun _ => True) (RX1, cX1_bit, 1, (Option.some Jvm.ClassFile.FieldType.long), [], "bit") 0 (roL (.inl r) f sz) 0 [(0, .int p0)] [] f sz 0 0)
  refine v_lconst (v := 1) dX1_bit_0 (by decide) ?_
  refine v_iload_n dX1_bit_1 rfl rfl ?_
  refine v_lshl dX1_bit_2 ?_
  obtain rfl := Option.some.inj h
  exact v_lret dX1_bit_3 rfl rfl

/-! X1 numbersIn (RT) -/
def DX1_numbersIn_64 (N : Nat) (f : HF) (k5 : Nat → Int32 → Int64 → Int32 → Option (Int64 ⊕ String)) (v0 : Nat) (v1 : Int32) (v2 : Int64) (v4 : Int32) : Option (Int64 ⊕ String) :=
    k5 v0 v1 v2 (v4 + 1)

def DX1_numbersIn_5 (N : Nat) (f : HF)  (n : Nat) (v0 : Nat) (v1 : Int32) (v2 : Int64) (v4 : Int32) : Option (Int64 ⊕ String) :=
  match n with
  | 0 => none
  | n + 1 =>
    (gR f v0 0 0).bind fun x1 =>
    (DX6_count N x1 f).bind fun x2 =>
    if x2 ≤ v4 then
      some (.inl v2)
    else
      (gR f v0 0 0).bind fun x4 =>
      bRT (DX6_get N x4 v4 f) fun x5 =>
      (gI f x5 1 1).bind fun x7 =>
      if x7 = (5 : Int32) then
        (gR f v0 0 0).bind fun x8 =>
        bRT (DX6_isInside N x8 v4 v1 f) fun x9 =>
        if x9 = 0 then
          DX1_numbersIn_64 N f (DX1_numbersIn_5 N f n) v0 v1 v2 v4
        else
          (gR f v0 0 0).bind fun x11 =>
          bRT (DX6_get N x11 v4 f) fun x12 =>
          (gI f x12 1 4).bind fun x14 =>
          (DX1_bit N x14 f).bind fun x15 =>
          DX1_numbersIn_64 N f (DX1_numbersIn_5 N f n) v0 v1 (v2 ||| x15) v4
      else
        DX1_numbersIn_64 N f (DX1_numbersIn_5 N f n) v0 v1 v2 v4

def DX1_numbersIn (N : Nat) (this : Nat) (p0 : Int32) (f : HF) : Option (Int64 ⊕ String) :=
  (ck f this 0).bind fun _ =>
  DX1_numbersIn_5 N f N this p0 (0 : Int64) (0 : Int32)

set_option maxRecDepth 20000 in
theorem tX1_numbersIn_64 {l : Launch} {g : GT} {sz : Option Nat} (N : Nat) (f : HF) (k5 : Nat → Int32 → Int64 → Int32 → Option (Int64 ⊕ String)) {r : (Int64 ⊕ String)} (hk5 : ∀ (w0 : Nat) (w1 : Int32) (w2 : Int64) (w4 : Int32), k5 w0 w1 w2 w4 = some r → V l g (fun _ => True) (RX1, cX1_numbersIn, 5, (Option.some Jvm.ClassFile.FieldType.long), [], "numbersIn") 10 (roL r f sz) 5 [(0, .ref w0), (1, .int w1), (2, .long w2), (4, .int w4)] [] f sz 0 0) : ∀ (v0 : Nat) (v1 : Int32) (v2 : Int64) (v4 : Int32), DX1_numbersIn_64 N f k5 v0 v1 v2 v4 = some r → V l g (fun _ => True) (RX1, cX1_numbersIn, 5, (Option.some Jvm.ClassFile.FieldType.long), [], "numbersIn") 10 (roL r f sz) 64 [(0, .ref v0), (1, .int v1), (2, .long v2), (4, .int v4)] [] f sz 0 0 := by
  intro v0 v1 v2 v4 h
  unfold DX1_numbersIn_64 at h
  refine v_iinc (v := (v4 + 1)) (ls1 := [(4, .int (v4 + 1)), (0, .ref v0), (1, .int v1), (2, .long v2)]) dX1_numbersIn_64 rfl rfl (by decide) rfl ?_
  refine v_goto (tgt := 5) dX1_numbersIn_67 (by decide) ?_
  exact v_sub (vs_c rfl (vs_c rfl (vs_c rfl (vs_c rfl vs_n)))) (hk5 v0 v1 v2 (v4 + 1) h)

set_option maxRecDepth 20000 in
theorem tX1_numbersIn_5 {l : Launch} {g : GT} {sz : Option Nat} (N : Nat) (f : HF)  {r : (Int64 ⊕ String)} : ∀ (n : Nat), ∀ (v0 : Nat) (v1 : Int32) (v2 : Int64) (v4 : Int32), DX1_numbersIn_5 N f n v0 v1 v2 v4 = some r → V l g (fun _ => True) (RX1, cX1_numbersIn, 5, (Option.some Jvm.ClassFile.FieldType.long), [], "numbersIn") 10 (roL r f sz) 5 [(0, .ref v0), (1, .int v1), (2, .long v2), (4, .int v4)] [] f sz 0 0 := by
  intro n
  induction n with
  | zero => intro v0 v1 v2 v4 h; cases h
  | succ n ih =>
    intro v0 v1 v2 v4 h
    rw [DX1_numbersIn_5] at h
    refine v_iload dX1_numbersIn_5 rfl ?_
    refine v_aload_n dX1_numbersIn_7 rfl rfl ?_
    obtain ⟨x1, hx1, h⟩ := ob_some h
    refine v_getR dX1_numbersIn_8 fl_X1_30 hx1 ?_
    obtain ⟨x2, hx3, h⟩ := ob_some h
    have ehx3 := tX6_count (l := l) (g := g) (sz := sz) N x1 f hx3
    refine v_cVI dX1_numbersIn_11 ml_X1_79 ok_X6_count ehx3 (kX6_count N x1 f hx3) rfl (by decide) rfl (rest := [.int v4]) rfl (Nat.le_of_ble_eq_true rfl) ?_
    refine v_icmp_ge (tgt := 70) dX1_numbersIn_14 (by decide) (fun c19 => ?_) (fun c19 => ?_)
    · replace h := ip_ c19 h
      refine v_lload_n dX1_numbersIn_70 rfl rfl ?_
      obtain rfl := Option.some.inj h
      exact v_lret dX1_numbersIn_71 rfl rfl
    · replace h := in_ c19 h
      refine v_aload_n dX1_numbersIn_17 rfl rfl ?_
      obtain ⟨x4, hx4, h⟩ := ob_some h
      refine v_getR dX1_numbersIn_18 fl_X1_30 hx4 ?_
      refine v_iload dX1_numbersIn_21 rfl ?_
      rcases bRT_some h with ⟨x5, hx6, h⟩ | ⟨e9, hx6, h⟩
      rotate_left
      · cases h
        have ehx6 := tX6_get (l := l) (g := g) (sz := sz) N x4 v4 f hx6
        exact v_cVx dX1_numbersIn_23 ml_X1_34 ok_X6_get ehx6 (kX6_get N x4 v4 f hx6) rfl (by decide) rfl (rest := []) rfl (Nat.le_of_ble_eq_true rfl) rfl rfl
      have ehx6 := tX6_get (l := l) (g := g) (sz := sz) N x4 v4 f hx6
      refine v_cVR dX1_numbersIn_23 ml_X1_34 ok_X6_get ehx6 (kX6_get N x4 v4 f hx6) rfl (by decide) rfl (rest := []) rfl (Nat.le_of_ble_eq_true rfl) ?_
      obtain ⟨x7, hx7, h⟩ := ob_some h
      refine v_getI dX1_numbersIn_26 fl_X1_44 hx7 ?_
      refine v_iconst (v := 5) dX1_numbersIn_29 (by decide) ?_
      refine v_icmp_ne (tgt := 64) dX1_numbersIn_30 (by decide) (fun c18 => ?_) (fun c18 => ?_)
      · replace h := in_ c18 h
        exact v_sub (vs_c rfl (vs_c rfl (vs_c rfl (vs_c rfl vs_n)))) (tX1_numbersIn_64 N f (DX1_numbersIn_5 N f n) ih v0 v1 v2 v4 h)
      · replace h := ip_ c18 h
        refine v_aload_n dX1_numbersIn_33 rfl rfl ?_
        obtain ⟨x8, hx8, h⟩ := ob_some h
        refine v_getR dX1_numbersIn_34 fl_X1_30 hx8 ?_
        refine v_iload dX1_numbersIn_37 rfl ?_
        refine v_iload_n dX1_numbersIn_39 rfl rfl ?_
        rcases bRT_some h with ⟨x9, hx10, h⟩ | ⟨e9, hx10, h⟩
        rotate_left
        · cases h
          have ehx10 := tX6_isInside (l := l) (g := g) (sz := sz) N x8 v4 v1 f hx10
          exact v_cVx dX1_numbersIn_40 ml_X1_100 ok_X6_isInside ehx10 (kX6_isInside N x8 v4 v1 f hx10) rfl (by decide) rfl (rest := []) rfl (Nat.le_of_ble_eq_true rfl) rfl rfl
        have ehx10 := tX6_isInside (l := l) (g := g) (sz := sz) N x8 v4 v1 f hx10
        refine v_cVI dX1_numbersIn_40 ml_X1_100 ok_X6_isInside ehx10 (kX6_isInside N x8 v4 v1 f hx10) rfl (by decide) rfl (rest := []) rfl (Nat.le_of_ble_eq_true rfl) ?_
        refine v_if_eq (tgt := 64) dX1_numbersIn_43 (by decide) (fun c17 => ?_) (fun c17 => ?_)
        · replace h := ip_ c17 h
          exact v_sub (vs_c rfl (vs_c rfl (vs_c rfl (vs_c rfl vs_n)))) (tX1_numbersIn_64 N f (DX1_numbersIn_5 N f n) ih v0 v1 v2 v4 h)
        · replace h := in_ c17 h
          refine v_lload_n dX1_numbersIn_46 rfl rfl ?_
          refine v_aload_n dX1_numbersIn_47 rfl rfl ?_
          obtain ⟨x11, hx11, h⟩ := ob_some h
          refine v_getR dX1_numbersIn_48 fl_X1_30 hx11 ?_
          refine v_iload dX1_numbersIn_51 rfl ?_
          rcases bRT_some h with ⟨x12, hx13, h⟩ | ⟨e9, hx13, h⟩
          rotate_left
          · cases h
            have ehx13 := tX6_get (l := l) (g := g) (sz := sz) N x11 v4 f hx13
            exact v_cVx dX1_numbersIn_53 ml_X1_34 ok_X6_get ehx13 (kX6_get N x11 v4 f hx13) rfl (by decide) rfl (rest := [.long v2]) rfl (Nat.le_of_ble_eq_true rfl) rfl rfl
          have ehx13 := tX6_get (l := l) (g := g) (sz := sz) N x11 v4 f hx13
          refine v_cVR dX1_numbersIn_53 ml_X1_34 ok_X6_get ehx13 (kX6_get N x11 v4 f hx13) rfl (by decide) rfl (rest := [.long v2]) rfl (Nat.le_of_ble_eq_true rfl) ?_
          obtain ⟨x14, hx14, h⟩ := ob_some h
          refine v_getI dX1_numbersIn_56 fl_X1_91 hx14 ?_
          obtain ⟨x15, hx16, h⟩ := ob_some h
          have ehx16 := tX1_bit (l := l) (g := g) (sz := sz) N x14 f hx16
          refine v_cSL dX1_numbersIn_59 ml_X1_73 ok_X1_bit ehx16 (by decide) rfl (rest := [.long v2]) rfl (Nat.le_of_ble_eq_true rfl) ?_
          refine v_lor dX1_numbersIn_62 ?_
          refine v_lstore_n (ls1 := [(2, .long (v2 ||| x15)), (0, .ref v0), (1, .int v1), (4, .int v4)]) dX1_numbersIn_63 rfl (by decide) rfl ?_
          exact v_sub (vs_c rfl (vs_c rfl (vs_c rfl (vs_c rfl vs_n)))) (tX1_numbersIn_64 N f (DX1_numbersIn_5 N f n) ih v0 v1 (v2 ||| x15) v4 h)

set_option maxRecDepth 20000 in
theorem kX1_numbersIn (N : Nat) (this : Nat) (p0 : Int32) (f : HF) {r : (Int64 ⊕ String)} (h : DX1_numbersIn N this p0 f = some r) : ck f this 0 = some () := by
  unfold DX1_numbersIn at h
  obtain ⟨_, hck, _⟩ := ob_some h
  exact hck

set_option maxRecDepth 20000 in
theorem tX1_numbersIn {l : Launch} {g : GT} {sz : Option Nat} (N : Nat) (this : Nat) (p0 : Int32) (f : HF) {r : (Int64 ⊕ String)} (h : DX1_numbersIn N this p0 f = some r) : Mt l g yX1_numbersIn cX1_numbersIn 5 (Option.some Jvm.ClassFile.FieldType.long) 10 [.ref this, .int p0] f sz (roL r f sz) := by
  unfold DX1_numbersIn at h
  obtain ⟨_, hck, h⟩ := ob_some h
  refine mt_of (by decide) (Nat.le_of_ble_eq_true rfl) (?_ : V l g (fun _ => True) (RX1, cX1_numbersIn, 5, (Option.some Jvm.ClassFile.FieldType.long), [], "numbersIn") 10 (roL r f sz) 0 [(0, .ref this), (1, .int p0)] [] f sz 0 0)
  refine v_lconst (v := 0) dX1_numbersIn_0 (by decide) ?_
  refine v_lstore_n (ls1 := [(2, .long (0 : Int64)), (0, .ref this), (1, .int p0)]) dX1_numbersIn_1 rfl (by decide) rfl ?_
  refine v_iconst (v := 0) dX1_numbersIn_2 (by decide) ?_
  refine v_istore (ls1 := [(4, .int (0 : Int32)), (2, .long (0 : Int64)), (0, .ref this), (1, .int p0)]) dX1_numbersIn_3 (by decide) rfl ?_
  exact v_sub (vs_c rfl (vs_c rfl (vs_c rfl (vs_c rfl vs_n)))) (tX1_numbersIn_5 N f N this p0 (0 : Int64) (0 : Int32) h)

/-! X1 needsOf (RT) -/
def DX1_needsOf_51 (N : Nat) (f : HF)  (v0 : Nat) (v1 : Nat) : Option (Int64 ⊕ String) :=
    (gI f v1 1 13).bind fun x2 =>
    if x2 = (6 : Int32) then
      (gI f v1 1 14).bind fun x3 =>
      bRT (DX1_numbersIn N v0 x3 f) fun x4 =>
      some (.inl x4)
    else
      some (.inl (0 : Int64))

def DX1_needsOf (N : Nat) (this : Nat) (p0 : Nat) (f : HF) : Option (Int64 ⊕ String) :=
  (ck f this 0).bind fun _ =>
  (gI f p0 1 13).bind fun x1 =>
  if x1 < 0 then
    DX1_needsOf_51 N f this p0
  else
    (gI f p0 1 13).bind fun x7 =>
    if (5 : Int32) < x7 then
      DX1_needsOf_51 N f this p0
    else
      (gR f this 0 0).bind fun x8 =>
      (gI f p0 1 14).bind fun x9 =>
      bRT (DX6_get N x8 x9 f) fun x10 =>
      (gI f x10 1 4).bind fun x12 =>
      (DX1_bit N x12 f).bind fun x13 =>
      (gR f this 0 0).bind fun x15 =>
      (gI f p0 1 15).bind fun x16 =>
      bRT (DX6_get N x15 x16 f) fun x17 =>
      (gI f x17 1 4).bind fun x19 =>
      (DX1_bit N x19 f).bind fun x20 =>
      some (.inl (x13 ||| x20))

set_option maxRecDepth 20000 in
theorem tX1_needsOf_51 {l : Launch} {g : GT} {sz : Option Nat} (N : Nat) (f : HF)  {r : (Int64 ⊕ String)} : ∀ (v0 : Nat) (v1 : Nat), DX1_needsOf_51 N f v0 v1 = some r → V l g (fun _ => True) (RX1, cX1_needsOf, 2, (Option.some Jvm.ClassFile.FieldType.long), [], "needsOf") 11 (roL r f sz) 51 [(0, .ref v0), (1, .ref v1)] [] f sz 0 0 := by
  intro v0 v1 h
  unfold DX1_needsOf_51 at h
  refine v_aload_n dX1_needsOf_51 rfl rfl ?_
  obtain ⟨x2, hx2, h⟩ := ob_some h
  refine v_getI dX1_needsOf_52 fl_X1_85 hx2 ?_
  refine v_bipush (v := 6) dX1_needsOf_55 (by decide) ?_
  refine v_icmp_ne (tgt := 71) dX1_needsOf_57 (by decide) (fun c6 => ?_) (fun c6 => ?_)
  · replace h := in_ c6 h
    refine v_lconst (v := 0) dX1_needsOf_71 (by decide) ?_
    obtain rfl := Option.some.inj h
    exact v_lret dX1_needsOf_72 rfl rfl
  · replace h := ip_ c6 h
    refine v_aload_n dX1_needsOf_60 rfl rfl ?_
    refine v_aload_n dX1_needsOf_61 rfl rfl ?_
    obtain ⟨x3, hx3, h⟩ := ob_some h
    refine v_getI dX1_needsOf_62 fl_X1_88 hx3 ?_
    rcases bRT_some h with ⟨x4, hx5, h⟩ | ⟨e9, hx5, h⟩
    rotate_left
    · cases h
      have ehx5 := tX1_numbersIn (l := l) (g := g) (sz := sz) N v0 x3 f hx5
      exact v_cVx dX1_needsOf_65 ml_X1_97 ok_X1_numbersIn ehx5 (kX1_numbersIn N v0 x3 f hx5) rfl (by decide) rfl (rest := []) rfl (Nat.le_of_ble_eq_true rfl) rfl rfl
    have ehx5 := tX1_numbersIn (l := l) (g := g) (sz := sz) N v0 x3 f hx5
    refine v_cVL dX1_needsOf_65 ml_X1_97 ok_X1_numbersIn ehx5 (kX1_numbersIn N v0 x3 f hx5) rfl (by decide) rfl (rest := []) rfl (Nat.le_of_ble_eq_true rfl) ?_
    refine v_goto (tgt := 72) dX1_needsOf_68 (by decide) ?_
    obtain rfl := Option.some.inj h
    exact v_lret dX1_needsOf_72 rfl rfl

set_option maxRecDepth 20000 in
theorem kX1_needsOf (N : Nat) (this : Nat) (p0 : Nat) (f : HF) {r : (Int64 ⊕ String)} (h : DX1_needsOf N this p0 f = some r) : ck f this 0 = some () := by
  unfold DX1_needsOf at h
  obtain ⟨_, hck, _⟩ := ob_some h
  exact hck

set_option maxRecDepth 20000 in
theorem tX1_needsOf {l : Launch} {g : GT} {sz : Option Nat} (N : Nat) (this : Nat) (p0 : Nat) (f : HF) {r : (Int64 ⊕ String)} (h : DX1_needsOf N this p0 f = some r) : Mt l g yX1_needsOf cX1_needsOf 2 (Option.some Jvm.ClassFile.FieldType.long) 11 [.ref this, .ref p0] f sz (roL r f sz) := by
  unfold DX1_needsOf at h
  obtain ⟨_, hck, h⟩ := ob_some h
  refine mt_of (by decide) (Nat.le_of_ble_eq_true rfl) (?_ : V l g (fun _ => True) (RX1, cX1_needsOf, 2, (Option.some Jvm.ClassFile.FieldType.long), [], "needsOf") 11 (roL r f sz) 0 [(0, .ref this), (1, .ref p0)] [] f sz 0 0)
  refine v_aload_n dX1_needsOf_0 rfl rfl ?_
  obtain ⟨x1, hx1, h⟩ := ob_some h
  refine v_getI dX1_needsOf_1 fl_X1_85 hx1 ?_
  refine v_if_lt (tgt := 51) dX1_needsOf_4 (by decide) (fun c23 => ?_) (fun c23 => ?_)
  · replace h := ip_ c23 h
    exact v_sub (vs_c rfl (vs_c rfl vs_n)) (tX1_needsOf_51 N f this p0 h)
  · replace h := in_ c23 h
    refine v_aload_n dX1_needsOf_7 rfl rfl ?_
    obtain ⟨x7, hx7, h⟩ := ob_some h
    refine v_getI dX1_needsOf_8 fl_X1_85 hx7 ?_
    refine v_iconst (v := 5) dX1_needsOf_11 (by decide) ?_
    refine v_icmp_gt (tgt := 51) dX1_needsOf_12 (by decide) (fun c22 => ?_) (fun c22 => ?_)
    · replace h := ip_ c22 h
      exact v_sub (vs_c rfl (vs_c rfl vs_n)) (tX1_needsOf_51 N f this p0 h)
    · replace h := in_ c22 h
      refine v_aload_n dX1_needsOf_15 rfl rfl ?_
      obtain ⟨x8, hx8, h⟩ := ob_some h
      refine v_getR dX1_needsOf_16 fl_X1_30 hx8 ?_
      refine v_aload_n dX1_needsOf_19 rfl rfl ?_
      obtain ⟨x9, hx9, h⟩ := ob_some h
      refine v_getI dX1_needsOf_20 fl_X1_88 hx9 ?_
      rcases bRT_some h with ⟨x10, hx11, h⟩ | ⟨e9, hx11, h⟩
      rotate_left
      · cases h
        have ehx11 := tX6_get (l := l) (g := g) (sz := sz) N x8 x9 f hx11
        exact v_cVx dX1_needsOf_23 ml_X1_34 ok_X6_get ehx11 (kX6_get N x8 x9 f hx11) rfl (by decide) rfl (rest := []) rfl (Nat.le_of_ble_eq_true rfl) rfl rfl
      have ehx11 := tX6_get (l := l) (g := g) (sz := sz) N x8 x9 f hx11
      refine v_cVR dX1_needsOf_23 ml_X1_34 ok_X6_get ehx11 (kX6_get N x8 x9 f hx11) rfl (by decide) rfl (rest := []) rfl (Nat.le_of_ble_eq_true rfl) ?_
      obtain ⟨x12, hx12, h⟩ := ob_some h
      refine v_getI dX1_needsOf_26 fl_X1_91 hx12 ?_
      obtain ⟨x13, hx14, h⟩ := ob_some h
      have ehx14 := tX1_bit (l := l) (g := g) (sz := sz) N x12 f hx14
      refine v_cSL dX1_needsOf_29 ml_X1_73 ok_X1_bit ehx14 (by decide) rfl (rest := []) rfl (Nat.le_of_ble_eq_true rfl) ?_
      refine v_aload_n dX1_needsOf_32 rfl rfl ?_
      obtain ⟨x15, hx15, h⟩ := ob_some h
      refine v_getR dX1_needsOf_33 fl_X1_30 hx15 ?_
      refine v_aload_n dX1_needsOf_36 rfl rfl ?_
      obtain ⟨x16, hx16, h⟩ := ob_some h
      refine v_getI dX1_needsOf_37 fl_X1_94 hx16 ?_
      rcases bRT_some h with ⟨x17, hx18, h⟩ | ⟨e9, hx18, h⟩
      rotate_left
      · cases h
        have ehx18 := tX6_get (l := l) (g := g) (sz := sz) N x15 x16 f hx18
        exact v_cVx dX1_needsOf_40 ml_X1_34 ok_X6_get ehx18 (kX6_get N x15 x16 f hx18) rfl (by decide) rfl (rest := [.long x13]) rfl (Nat.le_of_ble_eq_true rfl) rfl rfl
      have ehx18 := tX6_get (l := l) (g := g) (sz := sz) N x15 x16 f hx18
      refine v_cVR dX1_needsOf_40 ml_X1_34 ok_X6_get ehx18 (kX6_get N x15 x16 f hx18) rfl (by decide) rfl (rest := [.long x13]) rfl (Nat.le_of_ble_eq_true rfl) ?_
      obtain ⟨x19, hx19, h⟩ := ob_some h
      refine v_getI dX1_needsOf_43 fl_X1_91 hx19 ?_
      obtain ⟨x20, hx21, h⟩ := ob_some h
      have ehx21 := tX1_bit (l := l) (g := g) (sz := sz) N x19 f hx21
      refine v_cSL dX1_needsOf_46 ml_X1_73 ok_X1_bit ehx21 (by decide) rfl (rest := [.long x13]) rfl (Nat.le_of_ble_eq_true rfl) ?_
      refine v_lor dX1_needsOf_49 ?_
      obtain rfl := Option.some.inj h
      exact v_lret dX1_needsOf_50 rfl rfl

/-! X1 gatherNeeds (WT) -/
def DX1_gatherNeeds_71 (N : Nat) (k4 : Nat → Int64 → Int32 → HF → Option ((Int64 ⊕ String) × HF)) (v0 : Nat) (v1 : Int64) (v3 : Int32) (f : HF) : Option ((Int64 ⊕ String) × HF) :=
    k4 v0 v1 (v3 + 1) f

def DX1_gatherNeeds_4 (N : Nat)  (n : Nat) (v0 : Nat) (v1 : Int64) (v3 : Int32) (f : HF) : Option ((Int64 ⊕ String) × HF) :=
  match n with
  | 0 => none
  | n + 1 =>
    (gR f v0 0 0).bind fun x1 =>
    (DX6_count N x1 f).bind fun x2 =>
    if x2 ≤ v3 then
      some (.inl v1, f)
    else
      if (40 : Int32) ≤ v3 then
        some (.inl v1, f)
      else
        (gR f v0 0 0).bind fun x4 =>
        bRW (DX6_get N x4 v3 f) f fun x5 =>
        (gR f v0 0 1).bind fun x7 =>
        bRW (DX1_needsOf N v0 x5 f) f fun x8 =>
        (sL f x7 v3 x8).bind fun f10 =>
        (gR f10 v0 0 2).bind fun x11 =>
        (gR f10 v0 0 1).bind fun x12 =>
        (aL f10 x12 v3).bind fun x13 =>
        (sL f10 x11 v3 x13).bind fun f14 =>
        (gI f14 x5 1 13).bind fun x15 =>
        if x15 = (-1 : Int32) then
          DX1_gatherNeeds_71 N (DX1_gatherNeeds_4 N n) v0 v1 v3 f14
        else
          (DX1_bit N v3 f14).bind fun x16 =>
          DX1_gatherNeeds_71 N (DX1_gatherNeeds_4 N n) v0 (v1 ||| x16) v3 f14

def DX1_gatherNeeds (N : Nat) (this : Nat) (f : HF) : Option ((Int64 ⊕ String) × HF) :=
  (ck f this 0).bind fun _ =>
  DX1_gatherNeeds_4 N N this (0 : Int64) (0 : Int32) f

set_option maxRecDepth 20000 in
theorem tX1_gatherNeeds_71 {l : Launch} {g : GT} {sz : Option Nat} (N : Nat) (k4 : Nat → Int64 → Int32 → HF → Option ((Int64 ⊕ String) × HF)) {r : ((Int64 ⊕ String) × HF)} (hk4 : ∀ (w0 : Nat) (w1 : Int64) (w3 : Int32) (f : HF), k4 w0 w1 w3 f = some r → V l g (fun _ => True) (RX1, cX1_gatherNeeds, 5, (Option.some Jvm.ClassFile.FieldType.long), [], "gatherNeeds") 12 (roL r.1 r.2 sz) 4 [(0, .ref w0), (1, .long w1), (3, .int w3)] [] f sz 0 0) : ∀ (v0 : Nat) (v1 : Int64) (v3 : Int32) (f : HF), DX1_gatherNeeds_71 N k4 v0 v1 v3 f = some r → V l g (fun _ => True) (RX1, cX1_gatherNeeds, 5, (Option.some Jvm.ClassFile.FieldType.long), [], "gatherNeeds") 12 (roL r.1 r.2 sz) 71 [(0, .ref v0), (1, .long v1), (3, .int v3)] [] f sz 0 0 := by
  intro v0 v1 v3 f h
  unfold DX1_gatherNeeds_71 at h
  refine v_iinc (v := (v3 + 1)) (ls1 := [(3, .int (v3 + 1)), (0, .ref v0), (1, .long v1)]) dX1_gatherNeeds_71 rfl rfl (by decide) rfl ?_
  refine v_goto (tgt := 4) dX1_gatherNeeds_74 (by decide) ?_
  exact v_sub (vs_c rfl (vs_c rfl (vs_c rfl vs_n))) (hk4 v0 v1 (v3 + 1) f h)

set_option maxRecDepth 20000 in
theorem tX1_gatherNeeds_4 {l : Launch} {g : GT} {sz : Option Nat} (N : Nat)  {r : ((Int64 ⊕ String) × HF)} : ∀ (n : Nat), ∀ (v0 : Nat) (v1 : Int64) (v3 : Int32) (f : HF), DX1_gatherNeeds_4 N n v0 v1 v3 f = some r → V l g (fun _ => True) (RX1, cX1_gatherNeeds, 5, (Option.some Jvm.ClassFile.FieldType.long), [], "gatherNeeds") 12 (roL r.1 r.2 sz) 4 [(0, .ref v0), (1, .long v1), (3, .int v3)] [] f sz 0 0 := by
  intro n
  induction n with
  | zero => intro v0 v1 v3 f h; cases h
  | succ n ih =>
    intro v0 v1 v3 f h
    rw [DX1_gatherNeeds_4] at h
    refine v_iload_n dX1_gatherNeeds_4 rfl rfl ?_
    refine v_aload_n dX1_gatherNeeds_5 rfl rfl ?_
    obtain ⟨x1, hx1, h⟩ := ob_some h
    refine v_getR dX1_gatherNeeds_6 fl_X1_30 hx1 ?_
    obtain ⟨x2, hx3, h⟩ := ob_some h
    have ehx3 := tX6_count (l := l) (g := g) (sz := sz) N x1 f hx3
    refine v_cVI dX1_gatherNeeds_9 ml_X1_79 ok_X6_count ehx3 (kX6_count N x1 f hx3) rfl (by decide) rfl (rest := [.int v3]) rfl (Nat.le_of_ble_eq_true rfl) ?_
    refine v_icmp_ge (tgt := 77) dX1_gatherNeeds_12 (by decide) (fun c20 => ?_) (fun c20 => ?_)
    · replace h := ip_ c20 h
      refine v_lload_n dX1_gatherNeeds_77 rfl rfl ?_
      obtain rfl := Option.some.inj h
      exact v_lret dX1_gatherNeeds_78 rfl rfl
    · replace h := in_ c20 h
      refine v_iload_n dX1_gatherNeeds_15 rfl rfl ?_
      refine v_bipush (v := 40) dX1_gatherNeeds_16 (by decide) ?_
      refine v_icmp_ge (tgt := 77) dX1_gatherNeeds_18 (by decide) (fun c19 => ?_) (fun c19 => ?_)
      · replace h := ip_ c19 h
        refine v_lload_n dX1_gatherNeeds_77 rfl rfl ?_
        obtain rfl := Option.some.inj h
        exact v_lret dX1_gatherNeeds_78 rfl rfl
      · replace h := in_ c19 h
        refine v_aload_n dX1_gatherNeeds_21 rfl rfl ?_
        obtain ⟨x4, hx4, h⟩ := ob_some h
        refine v_getR dX1_gatherNeeds_22 fl_X1_30 hx4 ?_
        refine v_iload_n dX1_gatherNeeds_25 rfl rfl ?_
        rcases bRW_some h with ⟨x5, hx6, h⟩ | ⟨e9, hx6, h⟩
        rotate_left
        · cases h
          have ehx6 := tX6_get (l := l) (g := g) (sz := sz) N x4 v3 f hx6
          exact v_cVx dX1_gatherNeeds_26 ml_X1_34 ok_X6_get ehx6 (kX6_get N x4 v3 f hx6) rfl (by decide) rfl (rest := []) rfl (Nat.le_of_ble_eq_true rfl) rfl rfl
        have ehx6 := tX6_get (l := l) (g := g) (sz := sz) N x4 v3 f hx6
        refine v_cVR dX1_gatherNeeds_26 ml_X1_34 ok_X6_get ehx6 (kX6_get N x4 v3 f hx6) rfl (by decide) rfl (rest := []) rfl (Nat.le_of_ble_eq_true rfl) ?_
        refine v_astore (ls1 := [(4, .ref x5), (0, .ref v0), (1, .long v1), (3, .int v3)]) dX1_gatherNeeds_29 (by decide) rfl ?_
        refine v_aload_n dX1_gatherNeeds_31 rfl rfl ?_
        obtain ⟨x7, hx7, h⟩ := ob_some h
        refine v_getR dX1_gatherNeeds_32 fl_X1_9 hx7 ?_
        refine v_iload_n dX1_gatherNeeds_35 rfl rfl ?_
        refine v_aload_n dX1_gatherNeeds_36 rfl rfl ?_
        refine v_aload dX1_gatherNeeds_37 rfl ?_
        rcases bRW_some h with ⟨x8, hx9, h⟩ | ⟨e9, hx9, h⟩
        rotate_left
        · cases h
          have ehx9 := tX1_needsOf (l := l) (g := g) (sz := sz) N v0 x5 f hx9
          exact v_cVx dX1_gatherNeeds_39 ml_X1_82 ok_X1_needsOf ehx9 (kX1_needsOf N v0 x5 f hx9) rfl (by decide) rfl (rest := [.int v3, .ref x7]) rfl (Nat.le_of_ble_eq_true rfl) rfl rfl
        have ehx9 := tX1_needsOf (l := l) (g := g) (sz := sz) N v0 x5 f hx9
        refine v_cVL dX1_gatherNeeds_39 ml_X1_82 ok_X1_needsOf ehx9 (kX1_needsOf N v0 x5 f hx9) rfl (by decide) rfl (rest := [.int v3, .ref x7]) rfl (Nat.le_of_ble_eq_true rfl) ?_
        obtain ⟨f10, hf10, h⟩ := ob_some h
        refine v_last dX1_gatherNeeds_42 hf10 ?_
        refine v_aload_n dX1_gatherNeeds_43 rfl rfl ?_
        obtain ⟨x11, hx11, h⟩ := ob_some h
        refine v_getR dX1_gatherNeeds_44 fl_X1_15 hx11 ?_
        refine v_iload_n dX1_gatherNeeds_47 rfl rfl ?_
        refine v_aload_n dX1_gatherNeeds_48 rfl rfl ?_
        obtain ⟨x12, hx12, h⟩ := ob_some h
        refine v_getR dX1_gatherNeeds_49 fl_X1_9 hx12 ?_
        refine v_iload_n dX1_gatherNeeds_52 rfl rfl ?_
        obtain ⟨x13, hx13, h⟩ := ob_some h
        refine v_lald dX1_gatherNeeds_53 hx13 ?_
        obtain ⟨f14, hf14, h⟩ := ob_some h
        refine v_last dX1_gatherNeeds_54 hf14 ?_
        refine v_aload dX1_gatherNeeds_55 rfl ?_
        obtain ⟨x15, hx15, h⟩ := ob_some h
        refine v_getI dX1_gatherNeeds_57 fl_X1_85 hx15 ?_
        refine v_iconst (v := -1) dX1_gatherNeeds_60 (by decide) ?_
        refine v_icmp_eq (tgt := 71) dX1_gatherNeeds_61 (by decide) (fun c18 => ?_) (fun c18 => ?_)
        · replace h := ip_ c18 h
          exact v_sub (vs_c rfl (vs_c rfl (vs_c rfl vs_n))) (tX1_gatherNeeds_71 N (DX1_gatherNeeds_4 N n) ih v0 v1 v3 f14 h)
        · replace h := in_ c18 h
          refine v_lload_n dX1_gatherNeeds_64 rfl rfl ?_
          refine v_iload_n dX1_gatherNeeds_65 rfl rfl ?_
          obtain ⟨x16, hx17, h⟩ := ob_some h
          have ehx17 := tX1_bit (l := l) (g := g) (sz := sz) N v3 f14 hx17
          refine v_cSL dX1_gatherNeeds_66 ml_X1_73 ok_X1_bit ehx17 (by decide) rfl (rest := [.long v1]) rfl (Nat.le_of_ble_eq_true rfl) ?_
          refine v_lor dX1_gatherNeeds_69 ?_
          refine v_lstore_n (ls1 := [(1, .long (v1 ||| x16)), (4, .ref x5), (0, .ref v0), (3, .int v3)]) dX1_gatherNeeds_70 rfl (by decide) rfl ?_
          exact v_sub (vs_c rfl (vs_c rfl (vs_c rfl vs_n))) (tX1_gatherNeeds_71 N (DX1_gatherNeeds_4 N n) ih v0 (v1 ||| x16) v3 f14 h)

set_option maxRecDepth 20000 in
theorem kX1_gatherNeeds (N : Nat) (this : Nat) (f : HF) {r : ((Int64 ⊕ String) × HF)} (h : DX1_gatherNeeds N this f = some r) : ck f this 0 = some () := by
  unfold DX1_gatherNeeds at h
  obtain ⟨_, hck, _⟩ := ob_some h
  exact hck

set_option maxRecDepth 20000 in
theorem tX1_gatherNeeds {l : Launch} {g : GT} {sz : Option Nat} (N : Nat) (this : Nat) (f : HF) {r : ((Int64 ⊕ String) × HF)} (h : DX1_gatherNeeds N this f = some r) : Mt l g yX1_gatherNeeds cX1_gatherNeeds 5 (Option.some Jvm.ClassFile.FieldType.long) 12 [.ref this] f sz (roL r.1 r.2 sz) := by
  unfold DX1_gatherNeeds at h
  obtain ⟨_, hck, h⟩ := ob_some h
  refine mt_of (by decide) (Nat.le_of_ble_eq_true rfl) (?_ : V l g (fun _ => True) (RX1, cX1_gatherNeeds, 5, (Option.some Jvm.ClassFile.FieldType.long), [], "gatherNeeds") 12 (roL r.1 r.2 sz) 0 [(0, .ref this)] [] f sz 0 0)
  refine v_lconst (v := 0) dX1_gatherNeeds_0 (by decide) ?_
  refine v_lstore_n (ls1 := [(1, .long (0 : Int64)), (0, .ref this)]) dX1_gatherNeeds_1 rfl (by decide) rfl ?_
  refine v_iconst (v := 0) dX1_gatherNeeds_2 (by decide) ?_
  refine v_istore_n (ls1 := [(3, .int (0 : Int32)), (1, .long (0 : Int64)), (0, .ref this)]) dX1_gatherNeeds_3 rfl (by decide) rfl ?_
  exact v_sub (vs_c rfl (vs_c rfl (vs_c rfl vs_n))) (tX1_gatherNeeds_4 N N this (0 : Int64) (0 : Int32) f h)

/-! X1 isIn (R) -/
def DX1_isIn (N : Nat) (p0 : Int64) (p1 : Int32) (f : HF) : Option Int32 :=
  (DX1_bit N p1 f).bind fun x1 =>
  if (p0 &&& x1) = (0 : Int64) then
    some (0 : Int32)
  else
    some (1 : Int32)

set_option maxRecDepth 20000 in
theorem tX1_isIn {l : Launch} {g : GT} {sz : Option Nat} (N : Nat) (p0 : Int64) (p1 : Int32) (f : HF) {r : Int32} (h : DX1_isIn N p0 p1 f = some r) : Mt l g yX1_isIn cX1_isIn 3 (Option.some Jvm.ClassFile.FieldType.boolean) 1 [.long p0, .int p1] f sz (roI (.inl r) f sz) := by
  unfold DX1_isIn at h
  refine mt_of (by decide) (Nat.le_of_ble_eq_true rfl) (?_ : V l g (fun _ => True) (RX1, cX1_isIn, 3, (Option.some Jvm.ClassFile.FieldType.boolean), [], "isIn") 1 (roI (.inl r) f sz) 0 [(0, .long p0), (2, .int p1)] [] f sz 0 0)
  refine v_lload_n dX1_isIn_0 rfl rfl ?_
  refine v_iload_n dX1_isIn_1 rfl rfl ?_
  obtain ⟨x1, hx2, h⟩ := ob_some h
  have ehx2 := tX1_bit (l := l) (g := g) (sz := sz) N p1 f hx2
  refine v_cSL dX1_isIn_2 ml_X1_73 ok_X1_bit ehx2 (by decide) rfl (rest := [.long p0]) rfl (Nat.le_of_ble_eq_true rfl) ?_
  refine v_land dX1_isIn_5 ?_
  refine v_lconst (v := 0) dX1_isIn_6 (by decide) ?_
  refine v_lcmp_eq (tgt := 15) dX1_isIn_7 dX1_isIn_8 (by decide) (fun c3 => ?_) (fun c3 => ?_)
  · replace h := ip_ c3 h
    refine v_iconst (v := 0) dX1_isIn_15 (by decide) ?_
    obtain rfl := Option.some.inj h
    exact v_zret dX1_isIn_16 rfl (Or.inl rfl) rfl
  · replace h := in_ c3 h
    refine v_iconst (v := 1) dX1_isIn_11 (by decide) ?_
    refine v_goto (tgt := 16) dX1_isIn_12 (by decide) ?_
    obtain rfl := Option.some.inj h
    exact v_zret dX1_isIn_16 rfl (Or.inr rfl) rfl

/-! X1 leastInRing (W) -/
def DX1_leastInRing_69 (N : Nat)  (n : Nat) (v0 : Nat) (v1 : Int32) (v2 : Int32) (f : HF) : Option (Int32 × HF) :=
  match n with
  | 0 => none
  | n + 1 =>
    if v1 ≤ v2 then
      some ((-1 : Int32), f)
    else
      (gR f v0 0 2).bind fun x4 =>
      (aL f x4 v2).bind fun x5 =>
      (DX1_isIn N x5 v2 f).bind fun x6 =>
      if x6 = 0 then
        DX1_leastInRing_69 N n v0 v1 (v2 + 1) f
      else
        some (v2, f)

def DX1_leastInRing_55 (N : Nat) (k15 : Nat → Int32 → Int32 → HF → Option (Int32 × HF)) (k22 : Nat → Int32 → Int32 → Int32 → HF → Option (Int32 × HF)) (v0 : Nat) (v1 : Int32) (v2 : Int32) (v3 : Int32) (f : HF) : Option (Int32 × HF) :=
    k22 v0 v1 v2 (v3 + 1) f

def DX1_leastInRing_22 (N : Nat) (k15 : Nat → Int32 → Int32 → HF → Option (Int32 × HF)) (n : Nat) (v0 : Nat) (v1 : Int32) (v2 : Int32) (v3 : Int32) (f : HF) : Option (Int32 × HF) :=
  match n with
  | 0 => none
  | n + 1 =>
    if v1 ≤ v3 then
      k15 v0 v1 (v2 + 1) f
    else
      (gR f v0 0 2).bind fun x10 =>
      (aL f x10 v3).bind fun x11 =>
      (DX1_isIn N x11 v2 f).bind fun x12 =>
      if x12 = 0 then
        DX1_leastInRing_55 N k15 (DX1_leastInRing_22 N k15 n) v0 v1 v2 v3 f
      else
        (gR f v0 0 2).bind fun x14 =>
        (aL f x14 v3).bind fun x15 =>
        (gR f v0 0 2).bind fun x16 =>
        (aL f x16 v2).bind fun x17 =>
        (sL f x14 v3 (x15 ||| x17)).bind fun f18 =>
        DX1_leastInRing_55 N k15 (DX1_leastInRing_22 N k15 n) v0 v1 v2 v3 f18

def DX1_leastInRing_15 (N : Nat)  (n : Nat) (v0 : Nat) (v1 : Int32) (v2 : Int32) (f : HF) : Option (Int32 × HF) :=
  match n with
  | 0 => none
  | n + 1 =>
    if v1 ≤ v2 then
      DX1_leastInRing_69 N N v0 v1 (0 : Int32) f
    else
      DX1_leastInRing_22 N (DX1_leastInRing_15 N n) N v0 v1 v2 (0 : Int32) f

def DX1_leastInRing (N : Nat) (this : Nat) (f : HF) : Option (Int32 × HF) :=
  (ck f this 0).bind fun _ =>
  (gR f this 0 0).bind fun x1 =>
  (DX6_count N x1 f).bind fun x2 =>
  DX1_leastInRing_15 N N this (mnI x2 (40 : Int32)) (0 : Int32) f

set_option maxRecDepth 20000 in
theorem tX1_leastInRing_69 {l : Launch} {g : GT} {sz : Option Nat} (N : Nat)  {r : (Int32 × HF)} : ∀ (n : Nat), ∀ (v0 : Nat) (v1 : Int32) (v2 : Int32) (f : HF), DX1_leastInRing_69 N n v0 v1 v2 f = some r → V l g (fun _ => True) (RX1, cX1_leastInRing, 4, (Option.some Jvm.ClassFile.FieldType.int), [], "leastInRing") 2 (roI (.inl r.1) r.2 sz) 69 [(0, .ref v0), (1, .int v1), (2, .int v2)] [] f sz 0 0 := by
  intro n
  induction n with
  | zero => intro v0 v1 v2 f h; cases h
  | succ n ih =>
    intro v0 v1 v2 f h
    rw [DX1_leastInRing_69] at h
    refine v_iload_n dX1_leastInRing_69 rfl rfl ?_
    refine v_iload_n dX1_leastInRing_70 rfl rfl ?_
    refine v_icmp_ge (tgt := 95) dX1_leastInRing_71 (by decide) (fun c9 => ?_) (fun c9 => ?_)
    · replace h := ip_ c9 h
      refine v_iconst (v := -1) dX1_leastInRing_95 (by decide) ?_
      obtain rfl := Option.some.inj h
      exact v_iret dX1_leastInRing_96 rfl rfl
    · replace h := in_ c9 h
      refine v_aload_n dX1_leastInRing_74 rfl rfl ?_
      obtain ⟨x4, hx4, h⟩ := ob_some h
      refine v_getR dX1_leastInRing_75 fl_X1_15 hx4 ?_
      refine v_iload_n dX1_leastInRing_78 rfl rfl ?_
      obtain ⟨x5, hx5, h⟩ := ob_some h
      refine v_lald dX1_leastInRing_79 hx5 ?_
      refine v_iload_n dX1_leastInRing_80 rfl rfl ?_
      obtain ⟨x6, hx7, h⟩ := ob_some h
      have ehx7 := tX1_isIn (l := l) (g := g) (sz := sz) N x5 v2 f hx7
      refine v_cSI dX1_leastInRing_81 ml_X1_110 ok_X1_isIn ehx7 (by decide) rfl (rest := []) rfl (Nat.le_of_ble_eq_true rfl) ?_
      refine v_if_eq (tgt := 89) dX1_leastInRing_84 (by decide) (fun c8 => ?_) (fun c8 => ?_)
      · replace h := ip_ c8 h
        refine v_iinc (v := (v2 + 1)) (ls1 := [(2, .int (v2 + 1)), (0, .ref v0), (1, .int v1)]) dX1_leastInRing_89 rfl rfl (by decide) rfl ?_
        refine v_goto (tgt := 69) dX1_leastInRing_92 (by decide) ?_
        exact v_sub (vs_c rfl (vs_c rfl (vs_c rfl vs_n))) (ih v0 v1 (v2 + 1) f h)
      · replace h := in_ c8 h
        refine v_iload_n dX1_leastInRing_87 rfl rfl ?_
        obtain rfl := Option.some.inj h
        exact v_iret dX1_leastInRing_88 rfl rfl

set_option maxRecDepth 20000 in
theorem tX1_leastInRing_55 {l : Launch} {g : GT} {sz : Option Nat} (N : Nat) (k15 : Nat → Int32 → Int32 → HF → Option (Int32 × HF)) (k22 : Nat → Int32 → Int32 → Int32 → HF → Option (Int32 × HF)) {r : (Int32 × HF)} (hk15 : ∀ (w0 : Nat) (w1 : Int32) (w2 : Int32) (f : HF), k15 w0 w1 w2 f = some r → V l g (fun _ => True) (RX1, cX1_leastInRing, 4, (Option.some Jvm.ClassFile.FieldType.int), [], "leastInRing") 2 (roI (.inl r.1) r.2 sz) 15 [(0, .ref w0), (1, .int w1), (2, .int w2)] [] f sz 0 0) (hk22 : ∀ (w0 : Nat) (w1 : Int32) (w2 : Int32) (w3 : Int32) (f : HF), k22 w0 w1 w2 w3 f = some r → V l g (fun _ => True) (RX1, cX1_leastInRing, 4, (Option.some Jvm.ClassFile.FieldType.int), [], "leastInRing") 2 (roI (.inl r.1) r.2 sz) 22 [(0, .ref w0), (1, .int w1), (2, .int w2), (3, .int w3)] [] f sz 0 0) : ∀ (v0 : Nat) (v1 : Int32) (v2 : Int32) (v3 : Int32) (f : HF), DX1_leastInRing_55 N k15 k22 v0 v1 v2 v3 f = some r → V l g (fun _ => True) (RX1, cX1_leastInRing, 4, (Option.some Jvm.ClassFile.FieldType.int), [], "leastInRing") 2 (roI (.inl r.1) r.2 sz) 55 [(0, .ref v0), (1, .int v1), (2, .int v2), (3, .int v3)] [] f sz 0 0 := by
  intro v0 v1 v2 v3 f h
  unfold DX1_leastInRing_55 at h
  refine v_iinc (v := (v3 + 1)) (ls1 := [(3, .int (v3 + 1)), (0, .ref v0), (1, .int v1), (2, .int v2)]) dX1_leastInRing_55 rfl rfl (by decide) rfl ?_
  refine v_goto (tgt := 22) dX1_leastInRing_58 (by decide) ?_
  exact v_sub (vs_c rfl (vs_c rfl (vs_c rfl (vs_c rfl vs_n)))) (hk22 v0 v1 v2 (v3 + 1) f h)

set_option maxRecDepth 20000 in
theorem tX1_leastInRing_22 {l : Launch} {g : GT} {sz : Option Nat} (N : Nat) (k15 : Nat → Int32 → Int32 → HF → Option (Int32 × HF)) {r : (Int32 × HF)} (hk15 : ∀ (w0 : Nat) (w1 : Int32) (w2 : Int32) (f : HF), k15 w0 w1 w2 f = some r → V l g (fun _ => True) (RX1, cX1_leastInRing, 4, (Option.some Jvm.ClassFile.FieldType.int), [], "leastInRing") 2 (roI (.inl r.1) r.2 sz) 15 [(0, .ref w0), (1, .int w1), (2, .int w2)] [] f sz 0 0) : ∀ (n : Nat), ∀ (v0 : Nat) (v1 : Int32) (v2 : Int32) (v3 : Int32) (f : HF), DX1_leastInRing_22 N k15 n v0 v1 v2 v3 f = some r → V l g (fun _ => True) (RX1, cX1_leastInRing, 4, (Option.some Jvm.ClassFile.FieldType.int), [], "leastInRing") 2 (roI (.inl r.1) r.2 sz) 22 [(0, .ref v0), (1, .int v1), (2, .int v2), (3, .int v3)] [] f sz 0 0 := by
  intro n
  induction n with
  | zero => intro v0 v1 v2 v3 f h; cases h
  | succ n ih =>
    intro v0 v1 v2 v3 f h
    rw [DX1_leastInRing_22] at h
    refine v_iload_n dX1_leastInRing_22 rfl rfl ?_
    refine v_iload_n dX1_leastInRing_23 rfl rfl ?_
    refine v_icmp_ge (tgt := 61) dX1_leastInRing_24 (by decide) (fun c20 => ?_) (fun c20 => ?_)
    · replace h := ip_ c20 h
      refine v_iinc (v := (v2 + 1)) (ls1 := [(2, .int (v2 + 1)), (0, .ref v0), (1, .int v1), (3, .int v3)]) dX1_leastInRing_61 rfl rfl (by decide) rfl ?_
      refine v_goto (tgt := 15) dX1_leastInRing_64 (by decide) ?_
      exact v_sub (vs_c rfl (vs_c rfl (vs_c rfl vs_n))) (hk15 v0 v1 (v2 + 1) f h)
    · replace h := in_ c20 h
      refine v_aload_n dX1_leastInRing_27 rfl rfl ?_
      obtain ⟨x10, hx10, h⟩ := ob_some h
      refine v_getR dX1_leastInRing_28 fl_X1_15 hx10 ?_
      refine v_iload_n dX1_leastInRing_31 rfl rfl ?_
      obtain ⟨x11, hx11, h⟩ := ob_some h
      refine v_lald dX1_leastInRing_32 hx11 ?_
      refine v_iload_n dX1_leastInRing_33 rfl rfl ?_
      obtain ⟨x12, hx13, h⟩ := ob_some h
      have ehx13 := tX1_isIn (l := l) (g := g) (sz := sz) N x11 v2 f hx13
      refine v_cSI dX1_leastInRing_34 ml_X1_110 ok_X1_isIn ehx13 (by decide) rfl (rest := []) rfl (Nat.le_of_ble_eq_true rfl) ?_
      refine v_if_eq (tgt := 55) dX1_leastInRing_37 (by decide) (fun c19 => ?_) (fun c19 => ?_)
      · replace h := ip_ c19 h
        exact v_sub (vs_c rfl (vs_c rfl (vs_c rfl (vs_c rfl vs_n)))) (tX1_leastInRing_55 N k15 (DX1_leastInRing_22 N k15 n) hk15 ih v0 v1 v2 v3 f h)
      · replace h := in_ c19 h
        refine v_aload_n dX1_leastInRing_40 rfl rfl ?_
        obtain ⟨x14, hx14, h⟩ := ob_some h
        refine v_getR dX1_leastInRing_41 fl_X1_15 hx14 ?_
        refine v_iload_n dX1_leastInRing_44 rfl rfl ?_
        refine v_dup2_11 dX1_leastInRing_45 rfl rfl ?_
        obtain ⟨x15, hx15, h⟩ := ob_some h
        refine v_lald dX1_leastInRing_46 hx15 ?_
        refine v_aload_n dX1_leastInRing_47 rfl rfl ?_
        obtain ⟨x16, hx16, h⟩ := ob_some h
        refine v_getR dX1_leastInRing_48 fl_X1_15 hx16 ?_
        refine v_iload_n dX1_leastInRing_51 rfl rfl ?_
        obtain ⟨x17, hx17, h⟩ := ob_some h
        refine v_lald dX1_leastInRing_52 hx17 ?_
        refine v_lor dX1_leastInRing_53 ?_
        obtain ⟨f18, hf18, h⟩ := ob_some h
        refine v_last dX1_leastInRing_54 hf18 ?_
        exact v_sub (vs_c rfl (vs_c rfl (vs_c rfl (vs_c rfl vs_n)))) (tX1_leastInRing_55 N k15 (DX1_leastInRing_22 N k15 n) hk15 ih v0 v1 v2 v3 f18 h)

set_option maxRecDepth 20000 in
theorem tX1_leastInRing_15 {l : Launch} {g : GT} {sz : Option Nat} (N : Nat)  {r : (Int32 × HF)} : ∀ (n : Nat), ∀ (v0 : Nat) (v1 : Int32) (v2 : Int32) (f : HF), DX1_leastInRing_15 N n v0 v1 v2 f = some r → V l g (fun _ => True) (RX1, cX1_leastInRing, 4, (Option.some Jvm.ClassFile.FieldType.int), [], "leastInRing") 2 (roI (.inl r.1) r.2 sz) 15 [(0, .ref v0), (1, .int v1), (2, .int v2)] [] f sz 0 0 := by
  intro n
  induction n with
  | zero => intro v0 v1 v2 f h; cases h
  | succ n ih =>
    intro v0 v1 v2 f h
    rw [DX1_leastInRing_15] at h
    refine v_iload_n dX1_leastInRing_15 rfl rfl ?_
    refine v_iload_n dX1_leastInRing_16 rfl rfl ?_
    refine v_icmp_ge (tgt := 67) dX1_leastInRing_17 (by decide) (fun c21 => ?_) (fun c21 => ?_)
    · replace h := ip_ c21 h
      refine v_iconst (v := 0) dX1_leastInRing_67 (by decide) ?_
      refine v_istore_n (ls1 := [(2, .int (0 : Int32)), (0, .ref v0), (1, .int v1)]) dX1_leastInRing_68 rfl (by decide) rfl ?_
      exact v_sub (vs_c rfl (vs_c rfl (vs_c rfl vs_n))) (tX1_leastInRing_69 N N v0 v1 (0 : Int32) f h)
    · replace h := in_ c21 h
      refine v_iconst (v := 0) dX1_leastInRing_20 (by decide) ?_
      refine v_istore_n (ls1 := [(3, .int (0 : Int32)), (0, .ref v0), (1, .int v1), (2, .int v2)]) dX1_leastInRing_21 rfl (by decide) rfl ?_
      exact v_sub (vs_c rfl (vs_c rfl (vs_c rfl (vs_c rfl vs_n)))) (tX1_leastInRing_22 N (DX1_leastInRing_15 N n) ih N v0 v1 v2 (0 : Int32) f h)

set_option maxRecDepth 20000 in
theorem kX1_leastInRing (N : Nat) (this : Nat) (f : HF) {r : (Int32 × HF)} (h : DX1_leastInRing N this f = some r) : ck f this 0 = some () := by
  unfold DX1_leastInRing at h
  obtain ⟨_, hck, _⟩ := ob_some h
  exact hck

set_option maxRecDepth 20000 in
theorem tX1_leastInRing {l : Launch} {g : GT} {sz : Option Nat} (N : Nat) (this : Nat) (f : HF) {r : (Int32 × HF)} (h : DX1_leastInRing N this f = some r) : Mt l g yX1_leastInRing cX1_leastInRing 4 (Option.some Jvm.ClassFile.FieldType.int) 2 [.ref this] f sz (roI (.inl r.1) r.2 sz) := by
  unfold DX1_leastInRing at h
  obtain ⟨_, hck, h⟩ := ob_some h
  refine mt_of (by decide) (Nat.le_of_ble_eq_true rfl) (?_ : V l g (fun _ => True) (RX1, cX1_leastInRing, 4, (Option.some Jvm.ClassFile.FieldType.int), [], "leastInRing") 2 (roI (.inl r.1) r.2 sz) 0 [(0, .ref this)] [] f sz 0 0)
  refine v_aload_n dX1_leastInRing_0 rfl rfl ?_
  obtain ⟨x1, hx1, h⟩ := ob_some h
  refine v_getR dX1_leastInRing_1 fl_X1_30 hx1 ?_
  obtain ⟨x2, hx3, h⟩ := ob_some h
  have ehx3 := tX6_count (l := l) (g := g) (sz := sz) N x1 f hx3
  refine v_cVI dX1_leastInRing_4 ml_X1_79 ok_X6_count ehx3 (kX6_count N x1 f hx3) rfl (by decide) rfl (rest := []) rfl (Nat.le_of_ble_eq_true rfl) ?_
  refine v_bipush (v := 40) dX1_leastInRing_7 (by decide) ?_
  refine v_mminI dX1_leastInRing_9 ml_X1_104 ok_J9_min_7cf53 (by decide) (Nat.le_of_ble_eq_true rfl) ?_
  refine v_istore_n (ls1 := [(1, .int (mnI x2 (40 : Int32))), (0, .ref this)]) dX1_leastInRing_12 rfl (by decide) rfl ?_
  refine v_iconst (v := 0) dX1_leastInRing_13 (by decide) ?_
  refine v_istore_n (ls1 := [(2, .int (0 : Int32)), (1, .int (mnI x2 (40 : Int32))), (0, .ref this)]) dX1_leastInRing_14 rfl (by decide) rfl ?_
  exact v_sub (vs_c rfl (vs_c rfl (vs_c rfl vs_n))) (tX1_leastInRing_15 N N this (mnI x2 (40 : Int32)) (0 : Int32) f h)

/-! X1 leastReady (R) -/
def DX1_leastReady_31 (N : Nat) (f : HF) (k2 : Nat → Int64 → Int32 → Option Int32) (v0 : Nat) (v1 : Int64) (v3 : Int32) : Option Int32 :=
    k2 v0 v1 (v3 + 1)

def DX1_leastReady_2 (N : Nat) (f : HF)  (n : Nat) (v0 : Nat) (v1 : Int64) (v3 : Int32) : Option Int32 :=
  match n with
  | 0 => none
  | n + 1 =>
    if (40 : Int32) ≤ v3 then
      some (-1 : Int32)
    else
      (DX1_isIn N v1 v3 f).bind fun x1 =>
      if x1 = 0 then
        DX1_leastReady_31 N f (DX1_leastReady_2 N f n) v0 v1 v3
      else
        (gR f v0 0 1).bind fun x3 =>
        (aL f x3 v3).bind fun x4 =>
        if (x4 &&& v1) = (0 : Int64) then
          some v3
        else
          DX1_leastReady_31 N f (DX1_leastReady_2 N f n) v0 v1 v3

def DX1_leastReady (N : Nat) (this : Nat) (p0 : Int64) (f : HF) : Option Int32 :=
  (ck f this 0).bind fun _ =>
  DX1_leastReady_2 N f N this p0 (0 : Int32)

set_option maxRecDepth 20000 in
theorem tX1_leastReady_31 {l : Launch} {g : GT} {sz : Option Nat} (N : Nat) (f : HF) (k2 : Nat → Int64 → Int32 → Option Int32) {r : Int32} (hk2 : ∀ (w0 : Nat) (w1 : Int64) (w3 : Int32), k2 w0 w1 w3 = some r → V l g (fun _ => True) (RX1, cX1_leastReady, 4, (Option.some Jvm.ClassFile.FieldType.int), [], "leastReady") 2 (roI (.inl r) f sz) 2 [(0, .ref w0), (1, .long w1), (3, .int w3)] [] f sz 0 0) : ∀ (v0 : Nat) (v1 : Int64) (v3 : Int32), DX1_leastReady_31 N f k2 v0 v1 v3 = some r → V l g (fun _ => True) (RX1, cX1_leastReady, 4, (Option.some Jvm.ClassFile.FieldType.int), [], "leastReady") 2 (roI (.inl r) f sz) 31 [(0, .ref v0), (1, .long v1), (3, .int v3)] [] f sz 0 0 := by
  intro v0 v1 v3 h
  unfold DX1_leastReady_31 at h
  refine v_iinc (v := (v3 + 1)) (ls1 := [(3, .int (v3 + 1)), (0, .ref v0), (1, .long v1)]) dX1_leastReady_31 rfl rfl (by decide) rfl ?_
  refine v_goto (tgt := 2) dX1_leastReady_34 (by decide) ?_
  exact v_sub (vs_c rfl (vs_c rfl (vs_c rfl vs_n))) (hk2 v0 v1 (v3 + 1) h)

set_option maxRecDepth 20000 in
theorem tX1_leastReady_2 {l : Launch} {g : GT} {sz : Option Nat} (N : Nat) (f : HF)  {r : Int32} : ∀ (n : Nat), ∀ (v0 : Nat) (v1 : Int64) (v3 : Int32), DX1_leastReady_2 N f n v0 v1 v3 = some r → V l g (fun _ => True) (RX1, cX1_leastReady, 4, (Option.some Jvm.ClassFile.FieldType.int), [], "leastReady") 2 (roI (.inl r) f sz) 2 [(0, .ref v0), (1, .long v1), (3, .int v3)] [] f sz 0 0 := by
  intro n
  induction n with
  | zero => intro v0 v1 v3 h; cases h
  | succ n ih =>
    intro v0 v1 v3 h
    rw [DX1_leastReady_2] at h
    refine v_iload_n dX1_leastReady_2 rfl rfl ?_
    refine v_bipush (v := 40) dX1_leastReady_3 (by decide) ?_
    refine v_icmp_ge (tgt := 37) dX1_leastReady_5 (by decide) (fun c7 => ?_) (fun c7 => ?_)
    · replace h := ip_ c7 h
      refine v_iconst (v := -1) dX1_leastReady_37 (by decide) ?_
      obtain rfl := Option.some.inj h
      exact v_iret dX1_leastReady_38 rfl rfl
    · replace h := in_ c7 h
      refine v_lload_n dX1_leastReady_8 rfl rfl ?_
      refine v_iload_n dX1_leastReady_9 rfl rfl ?_
      obtain ⟨x1, hx2, h⟩ := ob_some h
      have ehx2 := tX1_isIn (l := l) (g := g) (sz := sz) N v1 v3 f hx2
      refine v_cSI dX1_leastReady_10 ml_X1_110 ok_X1_isIn ehx2 (by decide) rfl (rest := []) rfl (Nat.le_of_ble_eq_true rfl) ?_
      refine v_if_eq (tgt := 31) dX1_leastReady_13 (by decide) (fun c6 => ?_) (fun c6 => ?_)
      · replace h := ip_ c6 h
        exact v_sub (vs_c rfl (vs_c rfl (vs_c rfl vs_n))) (tX1_leastReady_31 N f (DX1_leastReady_2 N f n) ih v0 v1 v3 h)
      · replace h := in_ c6 h
        refine v_aload_n dX1_leastReady_16 rfl rfl ?_
        obtain ⟨x3, hx3, h⟩ := ob_some h
        refine v_getR dX1_leastReady_17 fl_X1_9 hx3 ?_
        refine v_iload_n dX1_leastReady_20 rfl rfl ?_
        obtain ⟨x4, hx4, h⟩ := ob_some h
        refine v_lald dX1_leastReady_21 hx4 ?_
        refine v_lload_n dX1_leastReady_22 rfl rfl ?_
        refine v_land dX1_leastReady_23 ?_
        refine v_lconst (v := 0) dX1_leastReady_24 (by decide) ?_
        refine v_lcmp_ne (tgt := 31) dX1_leastReady_25 dX1_leastReady_26 (by decide) (fun c5 => ?_) (fun c5 => ?_)
        · replace h := in_ c5 h
          exact v_sub (vs_c rfl (vs_c rfl (vs_c rfl vs_n))) (tX1_leastReady_31 N f (DX1_leastReady_2 N f n) ih v0 v1 v3 h)
        · replace h := ip_ c5 h
          refine v_iload_n dX1_leastReady_29 rfl rfl ?_
          obtain rfl := Option.some.inj h
          exact v_iret dX1_leastReady_30 rfl rfl

set_option maxRecDepth 20000 in
theorem kX1_leastReady (N : Nat) (this : Nat) (p0 : Int64) (f : HF) {r : Int32} (h : DX1_leastReady N this p0 f = some r) : ck f this 0 = some () := by
  unfold DX1_leastReady at h
  obtain ⟨_, hck, _⟩ := ob_some h
  exact hck

set_option maxRecDepth 20000 in
theorem tX1_leastReady {l : Launch} {g : GT} {sz : Option Nat} (N : Nat) (this : Nat) (p0 : Int64) (f : HF) {r : Int32} (h : DX1_leastReady N this p0 f = some r) : Mt l g yX1_leastReady cX1_leastReady 4 (Option.some Jvm.ClassFile.FieldType.int) 2 [.ref this, .long p0] f sz (roI (.inl r) f sz) := by
  unfold DX1_leastReady at h
  obtain ⟨_, hck, h⟩ := ob_some h
  refine mt_of (by decide) (Nat.le_of_ble_eq_true rfl) (?_ : V l g (fun _ => True) (RX1, cX1_leastReady, 4, (Option.some Jvm.ClassFile.FieldType.int), [], "leastReady") 2 (roI (.inl r) f sz) 0 [(0, .ref this), (1, .long p0)] [] f sz 0 0)
  refine v_iconst (v := 0) dX1_leastReady_0 (by decide) ?_
  refine v_istore_n (ls1 := [(3, .int (0 : Int32)), (0, .ref this), (1, .long p0)]) dX1_leastReady_1 rfl (by decide) rfl ?_
  exact v_sub (vs_c rfl (vs_c rfl (vs_c rfl vs_n))) (tX1_leastReady_2 N f N this p0 (0 : Int32) h)

/-! X1 sumOf (RT) -/
def DX1_sumOf_58 (N : Nat) (f : HF) (k5 : Nat → Int64 → Int64 → Int32 → Option (Int64 ⊕ String)) (v0 : Nat) (v1 : Int64) (v3 : Int64) (v5 : Int32) : Option (Int64 ⊕ String) :=
    k5 v0 v1 v3 (v5 + 1)

def DX1_sumOf_5 (N : Nat) (f : HF)  (n : Nat) (v0 : Nat) (v1 : Int64) (v3 : Int64) (v5 : Int32) : Option (Int64 ⊕ String) :=
  match n with
  | 0 => none
  | n + 1 =>
    (gR f v0 0 0).bind fun x1 =>
    (DX6_count N x1 f).bind fun x2 =>
    if x2 ≤ v5 then
      some (.inl v3)
    else
      (DX1_isIn N v1 v5 f).bind fun x4 =>
      if x4 = 0 then
        DX1_sumOf_58 N f (DX1_sumOf_5 N f n) v0 v1 v3 v5
      else
        (gR f v0 0 0).bind fun x6 =>
        bRT (DX6_get N x6 v5 f) fun x7 =>
        (DX2_amount N x7 f).bind fun x9 =>
        if x9 = (-9223372036854775808 : Int64) then
          some (.inl (-9223372036854775808 : Int64))
        else
          DX1_sumOf_58 N f (DX1_sumOf_5 N f n) v0 v1 (v3 + x9) v5

def DX1_sumOf (N : Nat) (this : Nat) (p0 : Int64) (f : HF) : Option (Int64 ⊕ String) :=
  (ck f this 0).bind fun _ =>
  DX1_sumOf_5 N f N this p0 (0 : Int64) (0 : Int32)

set_option maxRecDepth 20000 in
theorem tX1_sumOf_58 {l : Launch} {g : GT} {sz : Option Nat} (N : Nat) (f : HF) (k5 : Nat → Int64 → Int64 → Int32 → Option (Int64 ⊕ String)) {r : (Int64 ⊕ String)} (hk5 : ∀ (w0 : Nat) (w1 : Int64) (w3 : Int64) (w5 : Int32), k5 w0 w1 w3 w5 = some r → V l g (fun _ => True) (RX1, cX1_sumOf, 8, (Option.some Jvm.ClassFile.FieldType.long), [], "sumOf") 9 (roL r f sz) 5 [(0, .ref w0), (1, .long w1), (3, .long w3), (5, .int w5)] [] f sz 0 0) : ∀ (v0 : Nat) (v1 : Int64) (v3 : Int64) (v5 : Int32), DX1_sumOf_58 N f k5 v0 v1 v3 v5 = some r → V l g (fun _ => True) (RX1, cX1_sumOf, 8, (Option.some Jvm.ClassFile.FieldType.long), [], "sumOf") 9 (roL r f sz) 58 [(0, .ref v0), (1, .long v1), (3, .long v3), (5, .int v5)] [] f sz 0 0 := by
  intro v0 v1 v3 v5 h
  unfold DX1_sumOf_58 at h
  refine v_iinc (v := (v5 + 1)) (ls1 := [(5, .int (v5 + 1)), (0, .ref v0), (1, .long v1), (3, .long v3)]) dX1_sumOf_58 rfl rfl (by decide) rfl ?_
  refine v_goto (tgt := 5) dX1_sumOf_61 (by decide) ?_
  exact v_sub (vs_c rfl (vs_c rfl (vs_c rfl (vs_c rfl vs_n)))) (hk5 v0 v1 v3 (v5 + 1) h)

set_option maxRecDepth 20000 in
theorem tX1_sumOf_5 {l : Launch} {g : GT} {sz : Option Nat} (N : Nat) (f : HF)  {r : (Int64 ⊕ String)} : ∀ (n : Nat), ∀ (v0 : Nat) (v1 : Int64) (v3 : Int64) (v5 : Int32), DX1_sumOf_5 N f n v0 v1 v3 v5 = some r → V l g (fun _ => True) (RX1, cX1_sumOf, 8, (Option.some Jvm.ClassFile.FieldType.long), [], "sumOf") 9 (roL r f sz) 5 [(0, .ref v0), (1, .long v1), (3, .long v3), (5, .int v5)] [] f sz 0 0 := by
  intro n
  induction n with
  | zero => intro v0 v1 v3 v5 h; cases h
  | succ n ih =>
    intro v0 v1 v3 v5 h
    rw [DX1_sumOf_5] at h
    refine v_iload dX1_sumOf_5 rfl ?_
    refine v_aload_n dX1_sumOf_7 rfl rfl ?_
    obtain ⟨x1, hx1, h⟩ := ob_some h
    refine v_getR dX1_sumOf_8 fl_X1_30 hx1 ?_
    obtain ⟨x2, hx3, h⟩ := ob_some h
    have ehx3 := tX6_count (l := l) (g := g) (sz := sz) N x1 f hx3
    refine v_cVI dX1_sumOf_11 ml_X1_79 ok_X6_count ehx3 (kX6_count N x1 f hx3) rfl (by decide) rfl (rest := [.int v5]) rfl (Nat.le_of_ble_eq_true rfl) ?_
    refine v_icmp_ge (tgt := 64) dX1_sumOf_14 (by decide) (fun c13 => ?_) (fun c13 => ?_)
    · replace h := ip_ c13 h
      refine v_lload_n dX1_sumOf_64 rfl rfl ?_
      obtain rfl := Option.some.inj h
      exact v_lret dX1_sumOf_65 rfl rfl
    · replace h := in_ c13 h
      refine v_lload_n dX1_sumOf_17 rfl rfl ?_
      refine v_iload dX1_sumOf_18 rfl ?_
      obtain ⟨x4, hx5, h⟩ := ob_some h
      have ehx5 := tX1_isIn (l := l) (g := g) (sz := sz) N v1 v5 f hx5
      refine v_cSI dX1_sumOf_20 ml_X1_110 ok_X1_isIn ehx5 (by decide) rfl (rest := []) rfl (Nat.le_of_ble_eq_true rfl) ?_
      refine v_if_eq (tgt := 58) dX1_sumOf_23 (by decide) (fun c12 => ?_) (fun c12 => ?_)
      · replace h := ip_ c12 h
        exact v_sub (vs_c rfl (vs_c rfl (vs_c rfl (vs_c rfl vs_n)))) (tX1_sumOf_58 N f (DX1_sumOf_5 N f n) ih v0 v1 v3 v5 h)
      · replace h := in_ c12 h
        refine v_aload_n dX1_sumOf_26 rfl rfl ?_
        obtain ⟨x6, hx6, h⟩ := ob_some h
        refine v_getR dX1_sumOf_27 fl_X1_30 hx6 ?_
        refine v_iload dX1_sumOf_30 rfl ?_
        rcases bRT_some h with ⟨x7, hx8, h⟩ | ⟨e9, hx8, h⟩
        rotate_left
        · cases h
          have ehx8 := tX6_get (l := l) (g := g) (sz := sz) N x6 v5 f hx8
          exact v_cVx dX1_sumOf_32 ml_X1_34 ok_X6_get ehx8 (kX6_get N x6 v5 f hx8) rfl (by decide) rfl (rest := []) rfl (Nat.le_of_ble_eq_true rfl) rfl rfl
        have ehx8 := tX6_get (l := l) (g := g) (sz := sz) N x6 v5 f hx8
        refine v_cVR dX1_sumOf_32 ml_X1_34 ok_X6_get ehx8 (kX6_get N x6 v5 f hx8) rfl (by decide) rfl (rest := []) rfl (Nat.le_of_ble_eq_true rfl) ?_
        obtain ⟨x9, hx10, h⟩ := ob_some h
        have ehx10 := tX2_amount (l := l) (g := g) (sz := sz) N x7 f hx10
        refine v_cVL dX1_sumOf_35 ml_X1_152 ok_X2_amount ehx10 (kX2_amount N x7 f hx10) rfl (by decide) rfl (rest := []) rfl (Nat.le_of_ble_eq_true rfl) ?_
        refine v_lstore (ls1 := [(6, .long x9), (0, .ref v0), (1, .long v1), (3, .long v3), (5, .int v5)]) dX1_sumOf_38 (by decide) rfl ?_
        refine v_lload dX1_sumOf_40 rfl ?_
        refine v_ldc2 dX1_sumOf_42 kc_X1_114 ?_
        refine v_lcmp_ne (tgt := 53) dX1_sumOf_45 dX1_sumOf_46 (by decide) (fun c11 => ?_) (fun c11 => ?_)
        · replace h := in_ c11 h
          refine v_lload_n dX1_sumOf_53 rfl rfl ?_
          refine v_lload dX1_sumOf_54 rfl ?_
          refine v_ladd dX1_sumOf_56 ?_
          refine v_lstore_n (ls1 := [(3, .long (v3 + x9)), (6, .long x9), (0, .ref v0), (1, .long v1), (5, .int v5)]) dX1_sumOf_57 rfl (by decide) rfl ?_
          exact v_sub (vs_c rfl (vs_c rfl (vs_c rfl (vs_c rfl vs_n)))) (tX1_sumOf_58 N f (DX1_sumOf_5 N f n) ih v0 v1 (v3 + x9) v5 h)
        · replace h := ip_ c11 h
          refine v_ldc2 dX1_sumOf_49 kc_X1_114 ?_
          obtain rfl := Option.some.inj h
          exact v_lret dX1_sumOf_52 rfl rfl

set_option maxRecDepth 20000 in
theorem kX1_sumOf (N : Nat) (this : Nat) (p0 : Int64) (f : HF) {r : (Int64 ⊕ String)} (h : DX1_sumOf N this p0 f = some r) : ck f this 0 = some () := by
  unfold DX1_sumOf at h
  obtain ⟨_, hck, _⟩ := ob_some h
  exact hck

set_option maxRecDepth 20000 in
theorem tX1_sumOf {l : Launch} {g : GT} {sz : Option Nat} (N : Nat) (this : Nat) (p0 : Int64) (f : HF) {r : (Int64 ⊕ String)} (h : DX1_sumOf N this p0 f = some r) : Mt l g yX1_sumOf cX1_sumOf 8 (Option.some Jvm.ClassFile.FieldType.long) 9 [.ref this, .long p0] f sz (roL r f sz) := by
  unfold DX1_sumOf at h
  obtain ⟨_, hck, h⟩ := ob_some h
  refine mt_of (by decide) (Nat.le_of_ble_eq_true rfl) (?_ : V l g (fun _ => True) (RX1, cX1_sumOf, 8, (Option.some Jvm.ClassFile.FieldType.long), [], "sumOf") 9 (roL r f sz) 0 [(0, .ref this), (1, .long p0)] [] f sz 0 0)
  refine v_lconst (v := 0) dX1_sumOf_0 (by decide) ?_
  refine v_lstore_n (ls1 := [(3, .long (0 : Int64)), (0, .ref this), (1, .long p0)]) dX1_sumOf_1 rfl (by decide) rfl ?_
  refine v_iconst (v := 0) dX1_sumOf_2 (by decide) ?_
  refine v_istore (ls1 := [(5, .int (0 : Int32)), (3, .long (0 : Int64)), (0, .ref this), (1, .long p0)]) dX1_sumOf_3 (by decide) rfl ?_
  exact v_sub (vs_c rfl (vs_c rfl (vs_c rfl (vs_c rfl vs_n)))) (tX1_sumOf_5 N f N this p0 (0 : Int64) (0 : Int32) h)

