/-! X6 count (R) -/
def DX6_count (N : Nat) (this : Nat) (f : HF) : Option Int32 :=
  (ck f this 5).bind fun _ =>
  (gI f this 5 1).bind fun x1 =>
  some x1

set_option maxRecDepth 20000 in
theorem kX6_count (N : Nat) (this : Nat) (f : HF) {r : Int32} (h : DX6_count N this f = some r) : ck f this 5 = some () := by
  unfold DX6_count at h
  obtain ⟨_, hck, _⟩ := ob_some h
  exact hck

set_option maxRecDepth 20000 in
theorem tX6_count {l : Launch} {g : GT} {sz : Option Nat} (N : Nat) (this : Nat) (f : HF) {r : Int32} (h : DX6_count N this f = some r) : Mt l g yX6_count cX6_count 1 (Option.some Jvm.ClassFile.FieldType.int) 0 [.ref this] f sz (roI (.inl r) f sz) := by
  unfold DX6_count at h
  obtain ⟨_, hck, h⟩ := ob_some h
  refine mt_of (by decide) (Nat.le_of_ble_eq_true rfl) (?_ : V l g (fun _ => True) (RX6, cX6_count, 1, (Option.some Jvm.ClassFile.FieldType.int), [], "count") 0 (roI (.inl r) f sz) 0 [(0, .ref this)] [] f sz 0 0)
  refine v_aload_n dX6_count_0 rfl rfl ?_
  obtain ⟨x1, hx1, h⟩ := ob_some h
  refine v_getI dX6_count_1 fl_X6_18 hx1 ?_
  obtain rfl := Option.some.inj h
  exact v_iret dX6_count_4 rfl rfl

/-! X6 get (RT) -/
def DX6_get (N : Nat) (this : Nat) (p0 : Int32) (f : HF) : Option (Nat ⊕ String) :=
  (ck f this 5).bind fun _ =>
  if p0 < 0 then
    some (.inr "java/util/NoSuchElementException")
  else
    (gI f this 5 1).bind fun x1 =>
    if x1 ≤ p0 then
      some (.inr "java/util/NoSuchElementException")
    else
      (gR f this 5 0).bind fun x2 =>
      (aLen f x2 3).bind fun x3 =>
      if p0 < x3 then
        (gR f this 5 0).bind fun x4 =>
        (aR f x4 3 p0).bind fun x5 =>
        some (.inl x5)
      else
        some (.inr "java/util/NoSuchElementException")

set_option maxRecDepth 20000 in
theorem kX6_get (N : Nat) (this : Nat) (p0 : Int32) (f : HF) {r : (Nat ⊕ String)} (h : DX6_get N this p0 f = some r) : ck f this 5 = some () := by
  unfold DX6_get at h
  obtain ⟨_, hck, _⟩ := ob_some h
  exact hck

set_option maxRecDepth 20000 in
theorem tX6_get {l : Launch} {g : GT} {sz : Option Nat} (N : Nat) (this : Nat) (p0 : Int32) (f : HF) {r : (Nat ⊕ String)} (h : DX6_get N this p0 f = some r) : Mt l g yX6_get cX6_get 2 (Option.some (Jvm.ClassFile.FieldType.object "FormFields$Field")) 8 [.ref this, .int p0] f sz (roR r f sz) := by
  unfold DX6_get at h
  obtain ⟨_, hck, h⟩ := ob_some h
  refine mt_of (by decide) (Nat.le_of_ble_eq_true rfl) (?_ : V l g (fun _ => True) (RX6, cX6_get, 2, (Option.some (Jvm.ClassFile.FieldType.object "FormFields$Field")), [], "get") 8 (roR r f sz) 0 [(0, .ref this), (1, .int p0)] [] f sz 0 0)
  refine v_iload_n dX6_get_0 rfl rfl ?_
  refine v_if_lt (tgt := 21) dX6_get_1 (by decide) (fun c8 => ?_) (fun c8 => ?_)
  · replace h := ip_ c8 h
    obtain rfl := Option.some.inj h
    exact v_thr dX6_get_21 dX6_get_24 dX6_get_25 dX6_get_28 th_X6_22_24 (by decide) rfl (Nat.le_of_ble_eq_true rfl) rfl
  · replace h := in_ c8 h
    refine v_iload_n dX6_get_4 rfl rfl ?_
    refine v_aload_n dX6_get_5 rfl rfl ?_
    obtain ⟨x1, hx1, h⟩ := ob_some h
    refine v_getI dX6_get_6 fl_X6_18 hx1 ?_
    refine v_icmp_ge (tgt := 21) dX6_get_9 (by decide) (fun c7 => ?_) (fun c7 => ?_)
    · replace h := ip_ c7 h
      obtain rfl := Option.some.inj h
      exact v_thr dX6_get_21 dX6_get_24 dX6_get_25 dX6_get_28 th_X6_22_24 (by decide) rfl (Nat.le_of_ble_eq_true rfl) rfl
    · replace h := in_ c7 h
      refine v_iload_n dX6_get_12 rfl rfl ?_
      refine v_aload_n dX6_get_13 rfl rfl ?_
      obtain ⟨x2, hx2, h⟩ := ob_some h
      refine v_getR dX6_get_14 fl_X6_11 hx2 ?_
      obtain ⟨x3, hx3, h⟩ := ob_some h
      refine v_alen dX6_get_17 rfl hx3 ?_
      refine v_icmp_lt (tgt := 29) dX6_get_18 (by decide) (fun c6 => ?_) (fun c6 => ?_)
      · replace h := ip_ c6 h
        refine v_aload_n dX6_get_29 rfl rfl ?_
        obtain ⟨x4, hx4, h⟩ := ob_some h
        refine v_getR dX6_get_30 fl_X6_11 hx4 ?_
        refine v_iload_n dX6_get_33 rfl rfl ?_
        obtain ⟨x5, hx5, h⟩ := ob_some h
        refine v_aald dX6_get_34 (Or.inl rfl) hx5 ?_
        obtain rfl := Option.some.inj h
        exact v_aret dX6_get_35 rfl rfl
      · replace h := in_ c6 h
        obtain rfl := Option.some.inj h
        exact v_thr dX6_get_21 dX6_get_24 dX6_get_25 dX6_get_28 th_X6_22_24 (by decide) rfl (Nat.le_of_ble_eq_true rfl) rfl

/-! X6 masterOf (RT) -/
def DX6_masterOf (N : Nat) (this : Nat) (p0 : Int32) (f : HF) : Option (Nat ⊕ String) :=
  (ck f this 5).bind fun _ =>
  bRT (DX6_get N this p0 f) fun x1 =>
  (gI f x1 1 4).bind fun x3 =>
  bRT (DX6_get N this x3 f) fun x4 =>
  some (.inl x4)

set_option maxRecDepth 20000 in
theorem kX6_masterOf (N : Nat) (this : Nat) (p0 : Int32) (f : HF) {r : (Nat ⊕ String)} (h : DX6_masterOf N this p0 f = some r) : ck f this 5 = some () := by
  unfold DX6_masterOf at h
  obtain ⟨_, hck, _⟩ := ob_some h
  exact hck

set_option maxRecDepth 20000 in
theorem tX6_masterOf {l : Launch} {g : GT} {sz : Option Nat} (N : Nat) (this : Nat) (p0 : Int32) (f : HF) {r : (Nat ⊕ String)} (h : DX6_masterOf N this p0 f = some r) : Mt l g yX6_masterOf cX6_masterOf 2 (Option.some (Jvm.ClassFile.FieldType.object "FormFields$Field")) 9 [.ref this, .int p0] f sz (roR r f sz) := by
  unfold DX6_masterOf at h
  obtain ⟨_, hck, h⟩ := ob_some h
  refine mt_of (by decide) (Nat.le_of_ble_eq_true rfl) (?_ : V l g (fun _ => True) (RX6, cX6_masterOf, 2, (Option.some (Jvm.ClassFile.FieldType.object "FormFields$Field")), [], "masterOf") 9 (roR r f sz) 0 [(0, .ref this), (1, .int p0)] [] f sz 0 0)
  refine v_aload_n dX6_masterOf_0 rfl rfl ?_
  refine v_aload_n dX6_masterOf_1 rfl rfl ?_
  refine v_iload_n dX6_masterOf_2 rfl rfl ?_
  rcases bRT_some h with ⟨x1, hx2, h⟩ | ⟨e9, hx2, h⟩
  rotate_left
  · cases h
    have ehx2 := tX6_get (l := l) (g := g) (sz := sz) N this p0 f hx2
    exact v_cVx dX6_masterOf_3 ml_X6_25 ok_X6_get ehx2 (kX6_get N this p0 f hx2) rfl (by decide) rfl (rest := [.ref this]) rfl (Nat.le_of_ble_eq_true rfl) rfl rfl
  have ehx2 := tX6_get (l := l) (g := g) (sz := sz) N this p0 f hx2
  refine v_cVR dX6_masterOf_3 ml_X6_25 ok_X6_get ehx2 (kX6_get N this p0 f hx2) rfl (by decide) rfl (rest := [.ref this]) rfl (Nat.le_of_ble_eq_true rfl) ?_
  obtain ⟨x3, hx3, h⟩ := ob_some h
  refine v_getI dX6_masterOf_6 fl_X6_29 hx3 ?_
  rcases bRT_some h with ⟨x4, hx5, h⟩ | ⟨e9, hx5, h⟩
  rotate_left
  · cases h
    have ehx5 := tX6_get (l := l) (g := g) (sz := sz) N this x3 f hx5
    exact v_cVx dX6_masterOf_9 ml_X6_25 ok_X6_get ehx5 (kX6_get N this x3 f hx5) rfl (by decide) rfl (rest := []) rfl (Nat.le_of_ble_eq_true rfl) rfl rfl
  have ehx5 := tX6_get (l := l) (g := g) (sz := sz) N this x3 f hx5
  refine v_cVR dX6_masterOf_9 ml_X6_25 ok_X6_get ehx5 (kX6_get N this x3 f hx5) rfl (by decide) rfl (rest := []) rfl (Nat.le_of_ble_eq_true rfl) ?_
  obtain rfl := Option.some.inj h
  exact v_aret dX6_masterOf_12 rfl rfl

/-! X6 add (WT) -/
def DX6_add_54 (N : Nat)  (v0 : Nat) (v5 : Int32) (s0 : Nat) (s1 : Int32) (s2 : Int32) (s3 : Int32) (s4 : Int32) (s5 : Int32) (f : HF) : Option ((Int32 ⊕ String) × HF) :=
    bW (DX2_begin N s0 s1 s2 s3 s4 s5 f) fun x6 f8 =>
    (gI f8 v0 5 1).bind fun x9 =>
    (pV f8 v0 5 1 (.int (x9 + (1 : Int32)))).bind fun f10 =>
    some (.inl v5, f10)

def DX6_add (N : Nat) (this : Nat) (p0 : Int32) (p1 : Int32) (p2 : Int32) (p3 : Int32) (f : HF) : Option ((Int32 ⊕ String) × HF) :=
  (ck f this 5).bind fun _ =>
  (gI f this 5 1).bind fun x1 =>
  if x1 < 0 then
    some (.inr "java/lang/UnsupportedOperationException", f)
  else
    (gR f this 5 0).bind fun x2 =>
    (aLen f x2 3).bind fun x3 =>
    if x1 < x3 then
      (gR f this 5 0).bind fun x4 =>
      (aR f x4 3 x1).bind fun x5 =>
      if p3 = (-1 : Int32) then
        DX6_add_54 N this x1 x5 x1 p0 p1 p2 x1 f
      else
        DX6_add_54 N this x1 x5 x1 p0 p1 p2 p3 f
    else
      some (.inr "java/lang/UnsupportedOperationException", f)

set_option maxRecDepth 20000 in
theorem tX6_add_54 {l : Launch} {g : GT} {sz : Option Nat} (N : Nat)  {r : ((Int32 ⊕ String) × HF)} : ∀ (v0 : Nat) (v5 : Int32) (s0 : Nat) (s1 : Int32) (s2 : Int32) (s3 : Int32) (s4 : Int32) (s5 : Int32) (f : HF), DX6_add_54 N v0 v5 s0 s1 s2 s3 s4 s5 f = some r → V l g (fun _ => True) (RX6, cX6_add, 6, (Option.some Jvm.ClassFile.FieldType.int), [], "add") 8 (roI r.1 r.2 sz) 54 [(0, .ref v0), (5, .int v5)] [.int s5, .int s4, .int s3, .int s2, .int s1, .ref s0] f sz 0 0 := by
  intro v0 v5 s0 s1 s2 s3 s4 s5 f h
  unfold DX6_add_54 at h
  obtain ⟨x6, f8, hx7, h⟩ := bW_some h
  have ehx7 := tX2_begin (l := l) (g := g) (sz := sz) N s0 s1 s2 s3 s4 s5 f hx7
  refine v_cVU dX6_add_54 ml_X6_35 ok_X2_begin ehx7 (kX2_begin N s0 s1 s2 s3 s4 s5 f hx7) rfl (by decide) rfl (rest := []) rfl (Nat.le_of_ble_eq_true rfl) ?_
  refine v_aload_n dX6_add_57 rfl rfl ?_
  refine v_dup dX6_add_58 rfl ?_
  obtain ⟨x9, hx9, h⟩ := ob_some h
  refine v_getI dX6_add_59 fl_X6_18 hx9 ?_
  refine v_iconst (v := 1) dX6_add_62 (by decide) ?_
  refine v_iadd dX6_add_63 ?_
  obtain ⟨f10, hf10, h⟩ := ob_some h
  refine v_pI dX6_add_64 fp_X6_18 hf10 ?_
  refine v_iload dX6_add_67 rfl ?_
  obtain rfl := Option.some.inj h
  exact v_iret dX6_add_69 rfl rfl

set_option maxRecDepth 20000 in
theorem kX6_add (N : Nat) (this : Nat) (p0 : Int32) (p1 : Int32) (p2 : Int32) (p3 : Int32) (f : HF) {r : ((Int32 ⊕ String) × HF)} (h : DX6_add N this p0 p1 p2 p3 f = some r) : ck f this 5 = some () := by
  unfold DX6_add at h
  obtain ⟨_, hck, _⟩ := ob_some h
  exact hck

set_option maxRecDepth 20000 in
theorem tX6_add {l : Launch} {g : GT} {sz : Option Nat} (N : Nat) (this : Nat) (p0 : Int32) (p1 : Int32) (p2 : Int32) (p3 : Int32) (f : HF) {r : ((Int32 ⊕ String) × HF)} (h : DX6_add N this p0 p1 p2 p3 f = some r) : Mt l g yX6_add cX6_add 6 (Option.some Jvm.ClassFile.FieldType.int) 8 [.ref this, .int p0, .int p1, .int p2, .int p3] f sz (roI r.1 r.2 sz) := by
  unfold DX6_add at h
  obtain ⟨_, hck, h⟩ := ob_some h
  refine mt_of (by decide) (Nat.le_of_ble_eq_true rfl) (?_ : V l g (fun _ => True) (RX6, cX6_add, 6, (Option.some Jvm.ClassFile.FieldType.int), [], "add") 8 (roI r.1 r.2 sz) 0 [(0, .ref this), (1, .int p0), (2, .int p1), (3, .int p2), (4, .int p3)] [] f sz 0 0)
  refine v_aload_n dX6_add_0 rfl rfl ?_
  obtain ⟨x1, hx1, h⟩ := ob_some h
  refine v_getI dX6_add_1 fl_X6_18 hx1 ?_
  refine v_istore (ls1 := [(5, .int x1), (0, .ref this), (1, .int p0), (2, .int p1), (3, .int p2), (4, .int p3)]) dX6_add_4 (by decide) rfl ?_
  refine v_iload dX6_add_6 rfl ?_
  refine v_if_lt (tgt := 21) dX6_add_8 (by decide) (fun c13 => ?_) (fun c13 => ?_)
  · replace h := ip_ c13 h
    obtain rfl := Option.some.inj h
    exact v_thr dX6_add_21 dX6_add_24 dX6_add_25 dX6_add_28 th_X6_32_34 (by decide) rfl (Nat.le_of_ble_eq_true rfl) rfl
  · replace h := in_ c13 h
    refine v_iload dX6_add_11 rfl ?_
    refine v_aload_n dX6_add_13 rfl rfl ?_
    obtain ⟨x2, hx2, h⟩ := ob_some h
    refine v_getR dX6_add_14 fl_X6_11 hx2 ?_
    obtain ⟨x3, hx3, h⟩ := ob_some h
    refine v_alen dX6_add_17 rfl hx3 ?_
    refine v_icmp_lt (tgt := 29) dX6_add_18 (by decide) (fun c12 => ?_) (fun c12 => ?_)
    · replace h := ip_ c12 h
      refine v_aload_n dX6_add_29 rfl rfl ?_
      obtain ⟨x4, hx4, h⟩ := ob_some h
      refine v_getR dX6_add_30 fl_X6_11 hx4 ?_
      refine v_iload dX6_add_33 rfl ?_
      obtain ⟨x5, hx5, h⟩ := ob_some h
      refine v_aald dX6_add_35 (Or.inl rfl) hx5 ?_
      refine v_iload dX6_add_36 rfl ?_
      refine v_iload_n dX6_add_38 rfl rfl ?_
      refine v_iload_n dX6_add_39 rfl rfl ?_
      refine v_iload_n dX6_add_40 rfl rfl ?_
      refine v_iload dX6_add_41 rfl ?_
      refine v_iconst (v := -1) dX6_add_43 (by decide) ?_
      refine v_icmp_ne (tgt := 52) dX6_add_44 (by decide) (fun c11 => ?_) (fun c11 => ?_)
      · replace h := in_ c11 h
        refine v_iload dX6_add_52 rfl ?_
        exact v_sub (vs_c rfl (vs_c rfl vs_n)) (tX6_add_54 N this x1 x5 x1 p0 p1 p2 p3 f h)
      · replace h := ip_ c11 h
        refine v_iload dX6_add_47 rfl ?_
        refine v_goto (tgt := 54) dX6_add_49 (by decide) ?_
        exact v_sub (vs_c rfl (vs_c rfl vs_n)) (tX6_add_54 N this x1 x5 x1 p0 p1 p2 x1 f h)
    · replace h := in_ c12 h
      obtain rfl := Option.some.inj h
      exact v_thr dX6_add_21 dX6_add_24 dX6_add_25 dX6_add_28 th_X6_32_34 (by decide) rfl (Nat.le_of_ble_eq_true rfl) rfl

/-! X6 firstNamed (RT) -/
def DX6_firstNamed_61 (N : Nat) (f : HF) (k2 : Nat → Int32 → Int32 → Int32 → Option (Int32 ⊕ String)) (v0 : Nat) (v1 : Int32) (v2 : Int32) (v3 : Int32) : Option (Int32 ⊕ String) :=
    k2 v0 v1 v2 (v3 + 1)

def DX6_firstNamed_42 (N : Nat) (f : HF) (k2 : Nat → Int32 → Int32 → Int32 → Option (Int32 ⊕ String)) (v0 : Nat) (v1 : Int32) (v2 : Int32) (v3 : Int32) (v4 : Nat) (s0 : Int32) : Option (Int32 ⊕ String) :=
    (gI f v4 1 3).bind fun x9 =>
    if x9 = v2 then
      if s0 = v1 then
        some (.inl v3)
      else
        DX6_firstNamed_61 N f k2 v0 v1 v2 v3
    else
      DX6_firstNamed_61 N f k2 v0 v1 v2 v3

def DX6_firstNamed_2 (N : Nat) (f : HF)  (n : Nat) (v0 : Nat) (v1 : Int32) (v2 : Int32) (v3 : Int32) : Option (Int32 ⊕ String) :=
  match n with
  | 0 => none
  | n + 1 =>
    (gI f v0 5 1).bind fun x1 =>
    if x1 ≤ v3 then
      some (.inl (-1 : Int32))
    else
      bRT (DX6_get N v0 v3 f) fun x2 =>
      (gI f x2 1 2).bind fun x4 =>
      if x4 = (-1 : Int32) then
        DX6_firstNamed_42 N f (DX6_firstNamed_2 N f n) v0 v1 v2 v3 x2 (-1 : Int32)
      else
        (gI f x2 1 2).bind fun x5 =>
        bRT (DX6_get N v0 x5 f) fun x6 =>
        (gI f x6 1 4).bind fun x8 =>
        DX6_firstNamed_42 N f (DX6_firstNamed_2 N f n) v0 v1 v2 v3 x2 x8

def DX6_firstNamed (N : Nat) (this : Nat) (p0 : Int32) (p1 : Int32) (f : HF) : Option (Int32 ⊕ String) :=
  (ck f this 5).bind fun _ =>
  DX6_firstNamed_2 N f N this p0 p1 (0 : Int32)

set_option maxRecDepth 20000 in
theorem tX6_firstNamed_61 {l : Launch} {g : GT} {sz : Option Nat} (N : Nat) (f : HF) (k2 : Nat → Int32 → Int32 → Int32 → Option (Int32 ⊕ String)) {r : (Int32 ⊕ String)} (hk2 : ∀ (w0 : Nat) (w1 : Int32) (w2 : Int32) (w3 : Int32), k2 w0 w1 w2 w3 = some r → V l g (fun _ => True) (RX6, cX6_firstNamed, 6, (Option.some Jvm.ClassFile.FieldType.int), [], "firstNamed") 9 (roI r f sz) 2 [(0, .ref w0), (1, .int w1), (2, .int w2), (3, .int w3)] [] f sz 0 0) : ∀ (v0 : Nat) (v1 : Int32) (v2 : Int32) (v3 : Int32), DX6_firstNamed_61 N f k2 v0 v1 v2 v3 = some r → V l g (fun _ => True) (RX6, cX6_firstNamed, 6, (Option.some Jvm.ClassFile.FieldType.int), [], "firstNamed") 9 (roI r f sz) 61 [(0, .ref v0), (1, .int v1), (2, .int v2), (3, .int v3)] [] f sz 0 0 := by
  intro v0 v1 v2 v3 h
  unfold DX6_firstNamed_61 at h
  refine v_iinc (v := (v3 + 1)) (ls1 := [(3, .int (v3 + 1)), (0, .ref v0), (1, .int v1), (2, .int v2)]) dX6_firstNamed_61 rfl rfl (by decide) rfl ?_
  refine v_goto (tgt := 2) dX6_firstNamed_64 (by decide) ?_
  exact v_sub (vs_c rfl (vs_c rfl (vs_c rfl (vs_c rfl vs_n)))) (hk2 v0 v1 v2 (v3 + 1) h)

set_option maxRecDepth 20000 in
theorem tX6_firstNamed_42 {l : Launch} {g : GT} {sz : Option Nat} (N : Nat) (f : HF) (k2 : Nat → Int32 → Int32 → Int32 → Option (Int32 ⊕ String)) {r : (Int32 ⊕ String)} (hk2 : ∀ (w0 : Nat) (w1 : Int32) (w2 : Int32) (w3 : Int32), k2 w0 w1 w2 w3 = some r → V l g (fun _ => True) (RX6, cX6_firstNamed, 6, (Option.some Jvm.ClassFile.FieldType.int), [], "firstNamed") 9 (roI r f sz) 2 [(0, .ref w0), (1, .int w1), (2, .int w2), (3, .int w3)] [] f sz 0 0) : ∀ (v0 : Nat) (v1 : Int32) (v2 : Int32) (v3 : Int32) (v4 : Nat) (s0 : Int32), DX6_firstNamed_42 N f k2 v0 v1 v2 v3 v4 s0 = some r → V l g (fun _ => True) (RX6, cX6_firstNamed, 6, (Option.some Jvm.ClassFile.FieldType.int), [], "firstNamed") 9 (roI r f sz) 42 [(0, .ref v0), (1, .int v1), (2, .int v2), (3, .int v3), (4, .ref v4)] [.int s0] f sz 0 0 := by
  intro v0 v1 v2 v3 v4 s0 h
  unfold DX6_firstNamed_42 at h
  refine v_istore (ls1 := [(5, .int s0), (0, .ref v0), (1, .int v1), (2, .int v2), (3, .int v3), (4, .ref v4)]) dX6_firstNamed_42 (by decide) rfl ?_
  refine v_aload dX6_firstNamed_44 rfl ?_
  obtain ⟨x9, hx9, h⟩ := ob_some h
  refine v_getI dX6_firstNamed_46 fl_X6_42 hx9 ?_
  refine v_iload_n dX6_firstNamed_49 rfl rfl ?_
  refine v_icmp_ne (tgt := 61) dX6_firstNamed_50 (by decide) (fun c11 => ?_) (fun c11 => ?_)
  · replace h := in_ c11 h
    exact v_sub (vs_c rfl (vs_c rfl (vs_c rfl (vs_c rfl vs_n)))) (tX6_firstNamed_61 N f k2 hk2 v0 v1 v2 v3 h)
  · replace h := ip_ c11 h
    refine v_iload dX6_firstNamed_53 rfl ?_
    refine v_iload_n dX6_firstNamed_55 rfl rfl ?_
    refine v_icmp_ne (tgt := 61) dX6_firstNamed_56 (by decide) (fun c10 => ?_) (fun c10 => ?_)
    · replace h := in_ c10 h
      exact v_sub (vs_c rfl (vs_c rfl (vs_c rfl (vs_c rfl vs_n)))) (tX6_firstNamed_61 N f k2 hk2 v0 v1 v2 v3 h)
    · replace h := ip_ c10 h
      refine v_iload_n dX6_firstNamed_59 rfl rfl ?_
      obtain rfl := Option.some.inj h
      exact v_iret dX6_firstNamed_60 rfl rfl

set_option maxRecDepth 20000 in
theorem tX6_firstNamed_2 {l : Launch} {g : GT} {sz : Option Nat} (N : Nat) (f : HF)  {r : (Int32 ⊕ String)} : ∀ (n : Nat), ∀ (v0 : Nat) (v1 : Int32) (v2 : Int32) (v3 : Int32), DX6_firstNamed_2 N f n v0 v1 v2 v3 = some r → V l g (fun _ => True) (RX6, cX6_firstNamed, 6, (Option.some Jvm.ClassFile.FieldType.int), [], "firstNamed") 9 (roI r f sz) 2 [(0, .ref v0), (1, .int v1), (2, .int v2), (3, .int v3)] [] f sz 0 0 := by
  intro n
  induction n with
  | zero => intro v0 v1 v2 v3 h; cases h
  | succ n ih =>
    intro v0 v1 v2 v3 h
    rw [DX6_firstNamed_2] at h
    refine v_iload_n dX6_firstNamed_2 rfl rfl ?_
    refine v_aload_n dX6_firstNamed_3 rfl rfl ?_
    obtain ⟨x1, hx1, h⟩ := ob_some h
    refine v_getI dX6_firstNamed_4 fl_X6_18 hx1 ?_
    refine v_icmp_ge (tgt := 67) dX6_firstNamed_7 (by decide) (fun c13 => ?_) (fun c13 => ?_)
    · replace h := ip_ c13 h
      refine v_iconst (v := -1) dX6_firstNamed_67 (by decide) ?_
      obtain rfl := Option.some.inj h
      exact v_iret dX6_firstNamed_68 rfl rfl
    · replace h := in_ c13 h
      refine v_aload_n dX6_firstNamed_10 rfl rfl ?_
      refine v_iload_n dX6_firstNamed_11 rfl rfl ?_
      rcases bRT_some h with ⟨x2, hx3, h⟩ | ⟨e9, hx3, h⟩
      rotate_left
      · cases h
        have ehx3 := tX6_get (l := l) (g := g) (sz := sz) N v0 v3 f hx3
        exact v_cVx dX6_firstNamed_12 ml_X6_25 ok_X6_get ehx3 (kX6_get N v0 v3 f hx3) rfl (by decide) rfl (rest := []) rfl (Nat.le_of_ble_eq_true rfl) rfl rfl
      have ehx3 := tX6_get (l := l) (g := g) (sz := sz) N v0 v3 f hx3
      refine v_cVR dX6_firstNamed_12 ml_X6_25 ok_X6_get ehx3 (kX6_get N v0 v3 f hx3) rfl (by decide) rfl (rest := []) rfl (Nat.le_of_ble_eq_true rfl) ?_
      refine v_astore (ls1 := [(4, .ref x2), (0, .ref v0), (1, .int v1), (2, .int v2), (3, .int v3)]) dX6_firstNamed_15 (by decide) rfl ?_
      refine v_aload dX6_firstNamed_17 rfl ?_
      obtain ⟨x4, hx4, h⟩ := ob_some h
      refine v_getI dX6_firstNamed_19 fl_X6_39 hx4 ?_
      refine v_iconst (v := -1) dX6_firstNamed_22 (by decide) ?_
      refine v_icmp_ne (tgt := 30) dX6_firstNamed_23 (by decide) (fun c12 => ?_) (fun c12 => ?_)
      · replace h := in_ c12 h
        refine v_aload_n dX6_firstNamed_30 rfl rfl ?_
        refine v_aload dX6_firstNamed_31 rfl ?_
        obtain ⟨x5, hx5, h⟩ := ob_some h
        refine v_getI dX6_firstNamed_33 fl_X6_39 hx5 ?_
        rcases bRT_some h with ⟨x6, hx7, h⟩ | ⟨e9, hx7, h⟩
        rotate_left
        · cases h
          have ehx7 := tX6_get (l := l) (g := g) (sz := sz) N v0 x5 f hx7
          exact v_cVx dX6_firstNamed_36 ml_X6_25 ok_X6_get ehx7 (kX6_get N v0 x5 f hx7) rfl (by decide) rfl (rest := []) rfl (Nat.le_of_ble_eq_true rfl) rfl rfl
        have ehx7 := tX6_get (l := l) (g := g) (sz := sz) N v0 x5 f hx7
        refine v_cVR dX6_firstNamed_36 ml_X6_25 ok_X6_get ehx7 (kX6_get N v0 x5 f hx7) rfl (by decide) rfl (rest := []) rfl (Nat.le_of_ble_eq_true rfl) ?_
        obtain ⟨x8, hx8, h⟩ := ob_some h
        refine v_getI dX6_firstNamed_39 fl_X6_29 hx8 ?_
        exact v_sub (vs_c rfl (vs_c rfl (vs_c rfl (vs_c rfl (vs_c rfl vs_n))))) (tX6_firstNamed_42 N f (DX6_firstNamed_2 N f n) ih v0 v1 v2 v3 x2 x8 h)
      · replace h := ip_ c12 h
        refine v_iconst (v := -1) dX6_firstNamed_26 (by decide) ?_
        refine v_goto (tgt := 42) dX6_firstNamed_27 (by decide) ?_
        exact v_sub (vs_c rfl (vs_c rfl (vs_c rfl (vs_c rfl (vs_c rfl vs_n))))) (tX6_firstNamed_42 N f (DX6_firstNamed_2 N f n) ih v0 v1 v2 v3 x2 (-1 : Int32) h)

set_option maxRecDepth 20000 in
theorem kX6_firstNamed (N : Nat) (this : Nat) (p0 : Int32) (p1 : Int32) (f : HF) {r : (Int32 ⊕ String)} (h : DX6_firstNamed N this p0 p1 f = some r) : ck f this 5 = some () := by
  unfold DX6_firstNamed at h
  obtain ⟨_, hck, _⟩ := ob_some h
  exact hck

set_option maxRecDepth 20000 in
theorem tX6_firstNamed {l : Launch} {g : GT} {sz : Option Nat} (N : Nat) (this : Nat) (p0 : Int32) (p1 : Int32) (f : HF) {r : (Int32 ⊕ String)} (h : DX6_firstNamed N this p0 p1 f = some r) : Mt l g yX6_firstNamed cX6_firstNamed 6 (Option.some Jvm.ClassFile.FieldType.int) 9 [.ref this, .int p0, .int p1] f sz (roI r f sz) := by
  unfold DX6_firstNamed at h
  obtain ⟨_, hck, h⟩ := ob_some h
  refine mt_of (by decide) (Nat.le_of_ble_eq_true rfl) (?_ : V l g (fun _ => True) (RX6, cX6_firstNamed, 6, (Option.some Jvm.ClassFile.FieldType.int), [], "firstNamed") 9 (roI r f sz) 0 [(0, .ref this), (1, .int p0), (2, .int p1)] [] f sz 0 0)
  refine v_iconst (v := 0) dX6_firstNamed_0 (by decide) ?_
  refine v_istore_n (ls1 := [(3, .int (0 : Int32)), (0, .ref this), (1, .int p0), (2, .int p1)]) dX6_firstNamed_1 rfl (by decide) rfl ?_
  exact v_sub (vs_c rfl (vs_c rfl (vs_c rfl (vs_c rfl vs_n)))) (tX6_firstNamed_2 N f N this p0 p1 (0 : Int32) h)

/-! X6 isMaster (RT) -/
def DX6_isMaster (N : Nat) (this : Nat) (p0 : Int32) (f : HF) : Option (Int32 ⊕ String) :=
  (ck f this 5).bind fun _ =>
  bRT (DX6_get N this p0 f) fun x1 =>
  (gI f x1 1 1).bind fun x3 =>
  if x3 = 0 then
    some (.inl (0 : Int32))
  else
    (gI f x1 1 4).bind fun x4 =>
    if x4 = p0 then
      some (.inl (1 : Int32))
    else
      some (.inl (0 : Int32))

set_option maxRecDepth 20000 in
theorem kX6_isMaster (N : Nat) (this : Nat) (p0 : Int32) (f : HF) {r : (Int32 ⊕ String)} (h : DX6_isMaster N this p0 f = some r) : ck f this 5 = some () := by
  unfold DX6_isMaster at h
  obtain ⟨_, hck, _⟩ := ob_some h
  exact hck

set_option maxRecDepth 20000 in
theorem tX6_isMaster {l : Launch} {g : GT} {sz : Option Nat} (N : Nat) (this : Nat) (p0 : Int32) (f : HF) {r : (Int32 ⊕ String)} (h : DX6_isMaster N this p0 f = some r) : Mt l g yX6_isMaster cX6_isMaster 3 (Option.some Jvm.ClassFile.FieldType.boolean) 9 [.ref this, .int p0] f sz (roI r f sz) := by
  unfold DX6_isMaster at h
  obtain ⟨_, hck, h⟩ := ob_some h
  refine mt_of (by decide) (Nat.le_of_ble_eq_true rfl) (?_ : V l g (fun _ => True) (RX6, cX6_isMaster, 3, (Option.some Jvm.ClassFile.FieldType.boolean), [], "isMaster") 9 (roI r f sz) 0 [(0, .ref this), (1, .int p0)] [] f sz 0 0)
  refine v_aload_n dX6_isMaster_0 rfl rfl ?_
  refine v_iload_n dX6_isMaster_1 rfl rfl ?_
  rcases bRT_some h with ⟨x1, hx2, h⟩ | ⟨e9, hx2, h⟩
  rotate_left
  · cases h
    have ehx2 := tX6_get (l := l) (g := g) (sz := sz) N this p0 f hx2
    exact v_cVx dX6_isMaster_2 ml_X6_25 ok_X6_get ehx2 (kX6_get N this p0 f hx2) rfl (by decide) rfl (rest := []) rfl (Nat.le_of_ble_eq_true rfl) rfl rfl
  have ehx2 := tX6_get (l := l) (g := g) (sz := sz) N this p0 f hx2
  refine v_cVR dX6_isMaster_2 ml_X6_25 ok_X6_get ehx2 (kX6_get N this p0 f hx2) rfl (by decide) rfl (rest := []) rfl (Nat.le_of_ble_eq_true rfl) ?_
  refine v_astore_n (ls1 := [(2, .ref x1), (0, .ref this), (1, .int p0)]) dX6_isMaster_5 rfl (by decide) rfl ?_
  refine v_aload_n dX6_isMaster_6 rfl rfl ?_
  obtain ⟨x3, hx3, h⟩ := ob_some h
  refine v_getI dX6_isMaster_7 fl_X6_45 hx3 ?_
  refine v_if_eq (tgt := 25) dX6_isMaster_10 (by decide) (fun c6 => ?_) (fun c6 => ?_)
  · replace h := ip_ c6 h
    refine v_iconst (v := 0) dX6_isMaster_25 (by decide) ?_
    obtain rfl := Option.some.inj h
    exact v_zret dX6_isMaster_26 rfl (Or.inl rfl) rfl
  · replace h := in_ c6 h
    refine v_aload_n dX6_isMaster_13 rfl rfl ?_
    obtain ⟨x4, hx4, h⟩ := ob_some h
    refine v_getI dX6_isMaster_14 fl_X6_29 hx4 ?_
    refine v_iload_n dX6_isMaster_17 rfl rfl ?_
    refine v_icmp_ne (tgt := 25) dX6_isMaster_18 (by decide) (fun c5 => ?_) (fun c5 => ?_)
    · replace h := in_ c5 h
      refine v_iconst (v := 0) dX6_isMaster_25 (by decide) ?_
      obtain rfl := Option.some.inj h
      exact v_zret dX6_isMaster_26 rfl (Or.inl rfl) rfl
    · replace h := ip_ c5 h
      refine v_iconst (v := 1) dX6_isMaster_21 (by decide) ?_
      refine v_goto (tgt := 26) dX6_isMaster_22 (by decide) ?_
      obtain rfl := Option.some.inj h
      exact v_zret dX6_isMaster_26 rfl (Or.inr rfl) rfl

/-! X6 isInside (RT) -/
def DX6_isInside_12 (N : Nat) (f : HF)  (n : Nat) (v0 : Nat) (v2 : Int32) (v3 : Int32) (v4 : Int32) : Option (Int32 ⊕ String) :=
  match n with
  | 0 => none
  | n + 1 =>
    if (40 : Int32) ≤ v4 then
      some (.inl (0 : Int32))
    else
      if v3 = (-1 : Int32) then
        some (.inl (0 : Int32))
      else
        if v3 = v2 then
          some (.inl (1 : Int32))
        else
          bRT (DX6_get N v0 v3 f) fun x4 =>
          (gI f x4 1 2).bind fun x6 =>
          DX6_isInside_12 N f n v0 v2 x6 (v4 + 1)

def DX6_isInside (N : Nat) (this : Nat) (p0 : Int32) (p1 : Int32) (f : HF) : Option (Int32 ⊕ String) :=
  (ck f this 5).bind fun _ =>
  bRT (DX6_get N this p0 f) fun x1 =>
  (gI f x1 1 2).bind fun x3 =>
  DX6_isInside_12 N f N this p1 x3 (0 : Int32)

set_option maxRecDepth 20000 in
theorem tX6_isInside_12 {l : Launch} {g : GT} {sz : Option Nat} (N : Nat) (f : HF)  {r : (Int32 ⊕ String)} : ∀ (n : Nat), ∀ (v0 : Nat) (v2 : Int32) (v3 : Int32) (v4 : Int32), DX6_isInside_12 N f n v0 v2 v3 v4 = some r → V l g (fun _ => True) (RX6, cX6_isInside, 5, (Option.some Jvm.ClassFile.FieldType.boolean), [], "isInside") 9 (roI r f sz) 12 [(0, .ref v0), (2, .int v2), (3, .int v3), (4, .int v4)] [] f sz 0 0 := by
  intro n
  induction n with
  | zero => intro v0 v2 v3 v4 h; cases h
  | succ n ih =>
    intro v0 v2 v3 v4 h
    rw [DX6_isInside_12] at h
    refine v_iload dX6_isInside_12 rfl ?_
    refine v_bipush (v := 40) dX6_isInside_14 (by decide) ?_
    refine v_icmp_ge (tgt := 46) dX6_isInside_16 (by decide) (fun c9 => ?_) (fun c9 => ?_)
    · replace h := ip_ c9 h
      refine v_iconst (v := 0) dX6_isInside_46 (by decide) ?_
      obtain rfl := Option.some.inj h
      exact v_zret dX6_isInside_47 rfl (Or.inl rfl) rfl
    · replace h := in_ c9 h
      refine v_iload_n dX6_isInside_19 rfl rfl ?_
      refine v_iconst (v := -1) dX6_isInside_20 (by decide) ?_
      refine v_icmp_eq (tgt := 46) dX6_isInside_21 (by decide) (fun c8 => ?_) (fun c8 => ?_)
      · replace h := ip_ c8 h
        refine v_iconst (v := 0) dX6_isInside_46 (by decide) ?_
        obtain rfl := Option.some.inj h
        exact v_zret dX6_isInside_47 rfl (Or.inl rfl) rfl
      · replace h := in_ c8 h
        refine v_iload_n dX6_isInside_24 rfl rfl ?_
        refine v_iload_n dX6_isInside_25 rfl rfl ?_
        refine v_icmp_ne (tgt := 31) dX6_isInside_26 (by decide) (fun c7 => ?_) (fun c7 => ?_)
        · replace h := in_ c7 h
          refine v_aload_n dX6_isInside_31 rfl rfl ?_
          refine v_iload_n dX6_isInside_32 rfl rfl ?_
          rcases bRT_some h with ⟨x4, hx5, h⟩ | ⟨e9, hx5, h⟩
          rotate_left
          · cases h
            have ehx5 := tX6_get (l := l) (g := g) (sz := sz) N v0 v3 f hx5
            exact v_cVx dX6_isInside_33 ml_X6_25 ok_X6_get ehx5 (kX6_get N v0 v3 f hx5) rfl (by decide) rfl (rest := []) rfl (Nat.le_of_ble_eq_true rfl) rfl rfl
          have ehx5 := tX6_get (l := l) (g := g) (sz := sz) N v0 v3 f hx5
          refine v_cVR dX6_isInside_33 ml_X6_25 ok_X6_get ehx5 (kX6_get N v0 v3 f hx5) rfl (by decide) rfl (rest := []) rfl (Nat.le_of_ble_eq_true rfl) ?_
          obtain ⟨x6, hx6, h⟩ := ob_some h
          refine v_getI dX6_isInside_36 fl_X6_39 hx6 ?_
          refine v_istore_n (ls1 := [(3, .int x6), (0, .ref v0), (2, .int v2), (4, .int v4)]) dX6_isInside_39 rfl (by decide) rfl ?_
          refine v_iinc (v := (v4 + 1)) (ls1 := [(4, .int (v4 + 1)), (3, .int x6), (0, .ref v0), (2, .int v2)]) dX6_isInside_40 rfl rfl (by decide) rfl ?_
          refine v_goto (tgt := 12) dX6_isInside_43 (by decide) ?_
          exact v_sub (vs_c rfl (vs_c rfl (vs_c rfl (vs_c rfl vs_n)))) (ih v0 v2 x6 (v4 + 1) h)
        · replace h := ip_ c7 h
          refine v_iconst (v := 1) dX6_isInside_29 (by decide) ?_
          obtain rfl := Option.some.inj h
          exact v_zret dX6_isInside_30 rfl (Or.inr rfl) rfl

set_option maxRecDepth 20000 in
theorem kX6_isInside (N : Nat) (this : Nat) (p0 : Int32) (p1 : Int32) (f : HF) {r : (Int32 ⊕ String)} (h : DX6_isInside N this p0 p1 f = some r) : ck f this 5 = some () := by
  unfold DX6_isInside at h
  obtain ⟨_, hck, _⟩ := ob_some h
  exact hck

set_option maxRecDepth 20000 in
theorem tX6_isInside {l : Launch} {g : GT} {sz : Option Nat} (N : Nat) (this : Nat) (p0 : Int32) (p1 : Int32) (f : HF) {r : (Int32 ⊕ String)} (h : DX6_isInside N this p0 p1 f = some r) : Mt l g yX6_isInside cX6_isInside 5 (Option.some Jvm.ClassFile.FieldType.boolean) 9 [.ref this, .int p0, .int p1] f sz (roI r f sz) := by
  unfold DX6_isInside at h
  obtain ⟨_, hck, h⟩ := ob_some h
  refine mt_of (by decide) (Nat.le_of_ble_eq_true rfl) (?_ : V l g (fun _ => True) (RX6, cX6_isInside, 5, (Option.some Jvm.ClassFile.FieldType.boolean), [], "isInside") 9 (roI r f sz) 0 [(0, .ref this), (1, .int p0), (2, .int p1)] [] f sz 0 0)
  refine v_aload_n dX6_isInside_0 rfl rfl ?_
  refine v_iload_n dX6_isInside_1 rfl rfl ?_
  rcases bRT_some h with ⟨x1, hx2, h⟩ | ⟨e9, hx2, h⟩
  rotate_left
  · cases h
    have ehx2 := tX6_get (l := l) (g := g) (sz := sz) N this p0 f hx2
    exact v_cVx dX6_isInside_2 ml_X6_25 ok_X6_get ehx2 (kX6_get N this p0 f hx2) rfl (by decide) rfl (rest := []) rfl (Nat.le_of_ble_eq_true rfl) rfl rfl
  have ehx2 := tX6_get (l := l) (g := g) (sz := sz) N this p0 f hx2
  refine v_cVR dX6_isInside_2 ml_X6_25 ok_X6_get ehx2 (kX6_get N this p0 f hx2) rfl (by decide) rfl (rest := []) rfl (Nat.le_of_ble_eq_true rfl) ?_
  obtain ⟨x3, hx3, h⟩ := ob_some h
  refine v_getI dX6_isInside_5 fl_X6_39 hx3 ?_
  refine v_istore_n (ls1 := [(3, .int x3), (0, .ref this), (1, .int p0), (2, .int p1)]) dX6_isInside_8 rfl (by decide) rfl ?_
  refine v_iconst (v := 0) dX6_isInside_9 (by decide) ?_
  refine v_istore (ls1 := [(4, .int (0 : Int32)), (3, .int x3), (0, .ref this), (1, .int p0), (2, .int p1)]) dX6_isInside_10 (by decide) rfl ?_
  exact v_sub (vs_c rfl (vs_c rfl (vs_c rfl (vs_c rfl vs_n)))) (tX6_isInside_12 N f N this p1 x3 (0 : Int32) h)

