/-! X4 takeAll (WT) -/
def DX4_takeAll_4 (N : Nat)  (n : Nat) (v0 : Nat) (v1 : Int32) (v2 : Int32) (v3 : Int32) (f : HF) : Option ((Unit ⊕ String) × HF) :=
  match n with
  | 0 => none
  | n + 1 =>
    if v1 ≤ v3 then
      some (.inl (), f)
    else
      (DX4_endOf N v0 v2 f).bind fun x1 =>
      bWW (DX4_take N v0 v2 x1 f) fun x3 f5 =>
      DX4_takeAll_4 N n v0 v1 (x1 + (1 : Int32)) (v3 + 1) f5

def DX4_takeAll (N : Nat) (this : Nat) (p0 : Int32) (f : HF) : Option ((Unit ⊕ String) × HF) :=
  (ck f this 3).bind fun _ =>
  DX4_takeAll_4 N N this p0 (0 : Int32) (0 : Int32) f

set_option maxRecDepth 20000 in
theorem tX4_takeAll_4 {l : Launch} {g : GT} {sz : Option Nat} (N : Nat)  {r : ((Unit ⊕ String) × HF)} : ∀ (n : Nat), ∀ (v0 : Nat) (v1 : Int32) (v2 : Int32) (v3 : Int32) (f : HF), DX4_takeAll_4 N n v0 v1 v2 v3 f = some r → V l g (fun _ => True) (RX4, cX4_takeAll, 5, (Option.none : Option Jvm.ClassFile.FieldType), [], "takeAll") 12 (roU r.1 r.2 sz) 4 [(0, .ref v0), (1, .int v1), (2, .int v2), (3, .int v3)] [] f sz 0 0 := by
  intro n
  induction n with
  | zero => intro v0 v1 v2 v3 f h; cases h
  | succ n ih =>
    intro v0 v1 v2 v3 f h
    rw [DX4_takeAll_4] at h
    refine v_iload_n dX4_takeAll_4 rfl rfl ?_
    refine v_iload_n dX4_takeAll_5 rfl rfl ?_
    refine v_icmp_ge (tgt := 34) dX4_takeAll_6 (by decide) (fun c6 => ?_) (fun c6 => ?_)
    · replace h := ip_ c6 h
      obtain rfl := Option.some.inj h
      exact v_vret dX4_takeAll_34 rfl rfl
    · replace h := in_ c6 h
      refine v_aload_n dX4_takeAll_9 rfl rfl ?_
      refine v_iload_n dX4_takeAll_10 rfl rfl ?_
      obtain ⟨x1, hx2, h⟩ := ob_some h
      have ehx2 := tX4_endOf (l := l) (g := g) (sz := sz) N v0 v2 f hx2
      refine v_cVI dX4_takeAll_11 ml_X4_37 ok_X4_endOf ehx2 (kX4_endOf N v0 v2 f hx2) rfl (by decide) rfl (rest := []) rfl (Nat.le_of_ble_eq_true rfl) ?_
      refine v_istore (ls1 := [(4, .int x1), (0, .ref v0), (1, .int v1), (2, .int v2), (3, .int v3)]) dX4_takeAll_14 (by decide) rfl ?_
      refine v_aload_n dX4_takeAll_16 rfl rfl ?_
      refine v_iload_n dX4_takeAll_17 rfl rfl ?_
      refine v_iload dX4_takeAll_18 rfl ?_
      rcases bWW_some h with ⟨x3, f5, hx4, h⟩ | ⟨e9, f5, hx4, h⟩
      rotate_left
      · cases h
        have ehx4 := tX4_take (l := l) (g := g) (sz := sz) N v0 v2 x1 f hx4
        exact v_cVx dX4_takeAll_20 ml_X4_45 ok_X4_take ehx4 (kX4_take N v0 v2 x1 f hx4) rfl (by decide) rfl (rest := []) rfl (Nat.le_of_ble_eq_true rfl) rfl rfl
      have ehx4 := tX4_take (l := l) (g := g) (sz := sz) N v0 v2 x1 f hx4
      refine v_cVU dX4_takeAll_20 ml_X4_45 ok_X4_take ehx4 (kX4_take N v0 v2 x1 f hx4) rfl (by decide) rfl (rest := []) rfl (Nat.le_of_ble_eq_true rfl) ?_
      refine v_iload dX4_takeAll_23 rfl ?_
      refine v_iconst (v := 1) dX4_takeAll_25 (by decide) ?_
      refine v_iadd dX4_takeAll_26 ?_
      refine v_istore_n (ls1 := [(2, .int (x1 + (1 : Int32))), (4, .int x1), (0, .ref v0), (1, .int v1), (3, .int v3)]) dX4_takeAll_27 rfl (by decide) rfl ?_
      refine v_iinc (v := (v3 + 1)) (ls1 := [(3, .int (v3 + 1)), (2, .int (x1 + (1 : Int32))), (4, .int x1), (0, .ref v0), (1, .int v1)]) dX4_takeAll_28 rfl rfl (by decide) rfl ?_
      refine v_goto (tgt := 4) dX4_takeAll_31 (by decide) ?_
      exact v_sub (vs_c rfl (vs_c rfl (vs_c rfl (vs_c rfl vs_n)))) (ih v0 v1 (x1 + (1 : Int32)) (v3 + 1) f5 h)

set_option maxRecDepth 20000 in
theorem kX4_takeAll (N : Nat) (this : Nat) (p0 : Int32) (f : HF) {r : ((Unit ⊕ String) × HF)} (h : DX4_takeAll N this p0 f = some r) : ck f this 3 = some () := by
  unfold DX4_takeAll at h
  obtain ⟨_, hck, _⟩ := ob_some h
  exact hck

set_option maxRecDepth 20000 in
theorem tX4_takeAll {l : Launch} {g : GT} {sz : Option Nat} (N : Nat) (this : Nat) (p0 : Int32) (f : HF) {r : ((Unit ⊕ String) × HF)} (h : DX4_takeAll N this p0 f = some r) : Mt l g yX4_takeAll cX4_takeAll 5 (Option.none : Option Jvm.ClassFile.FieldType) 12 [.ref this, .int p0] f sz (roU r.1 r.2 sz) := by
  unfold DX4_takeAll at h
  obtain ⟨_, hck, h⟩ := ob_some h
  refine mt_of (by decide) (Nat.le_of_ble_eq_true rfl) (?_ : V l g (fun _ => True) (RX4, cX4_takeAll, 5, (Option.none : Option Jvm.ClassFile.FieldType), [], "takeAll") 12 (roU r.1 r.2 sz) 0 [(0, .ref this), (1, .int p0)] [] f sz 0 0)
  refine v_iconst (v := 0) dX4_takeAll_0 (by decide) ?_
  refine v_istore_n (ls1 := [(2, .int (0 : Int32)), (0, .ref this), (1, .int p0)]) dX4_takeAll_1 rfl (by decide) rfl ?_
  refine v_iconst (v := 0) dX4_takeAll_2 (by decide) ?_
  refine v_istore_n (ls1 := [(3, .int (0 : Int32)), (2, .int (0 : Int32)), (0, .ref this), (1, .int p0)]) dX4_takeAll_3 rfl (by decide) rfl ?_
  exact v_sub (vs_c rfl (vs_c rfl (vs_c rfl (vs_c rfl vs_n)))) (tX4_takeAll_4 N N this p0 (0 : Int32) (0 : Int32) f h)

/-! X4 readAll (WT) -/
def DX4_readAll (N : Nat) (this : Nat) (f : HF) : Option ((Int32 ⊕ String) × HF) :=
  (ck f this 3).bind fun _ =>
  bRW (DX4_checkAll N this f) f fun x1 =>
  bWW (DX4_takeAll N this x1 f) fun x3 f5 =>
  (gR f5 this 3 1).bind fun x6 =>
  bW (DX5_clear N x6 f5) fun x7 f9 =>
  some (.inl x1, f9)

set_option maxRecDepth 20000 in
theorem kX4_readAll (N : Nat) (this : Nat) (f : HF) {r : ((Int32 ⊕ String) × HF)} (h : DX4_readAll N this f = some r) : ck f this 3 = some () := by
  unfold DX4_readAll at h
  obtain ⟨_, hck, _⟩ := ob_some h
  exact hck

set_option maxRecDepth 20000 in
theorem tX4_readAll {l : Launch} {g : GT} {sz : Option Nat} (N : Nat) (this : Nat) (f : HF) {r : ((Int32 ⊕ String) × HF)} (h : DX4_readAll N this f = some r) : Mt l g yX4_readAll cX4_readAll 2 (Option.some Jvm.ClassFile.FieldType.int) 13 [.ref this] f sz (roI r.1 r.2 sz) := by
  unfold DX4_readAll at h
  obtain ⟨_, hck, h⟩ := ob_some h
  refine mt_of (by decide) (Nat.le_of_ble_eq_true rfl) (?_ : V l g (fun _ => True) (RX4, cX4_readAll, 2, (Option.some Jvm.ClassFile.FieldType.int), [], "readAll") 13 (roI r.1 r.2 sz) 0 [(0, .ref this)] [] f sz 0 0)
  refine v_aload_n dX4_readAll_0 rfl rfl ?_
  rcases bRW_some h with ⟨x1, hx2, h⟩ | ⟨e9, hx2, h⟩
  rotate_left
  · cases h
    have ehx2 := tX4_checkAll (l := l) (g := g) (sz := sz) N this f hx2
    exact v_cVx dX4_readAll_1 ml_X4_24 ok_X4_checkAll ehx2 (kX4_checkAll N this f hx2) rfl (by decide) rfl (rest := []) rfl (Nat.le_of_ble_eq_true rfl) rfl rfl
  have ehx2 := tX4_checkAll (l := l) (g := g) (sz := sz) N this f hx2
  refine v_cVI dX4_readAll_1 ml_X4_24 ok_X4_checkAll ehx2 (kX4_checkAll N this f hx2) rfl (by decide) rfl (rest := []) rfl (Nat.le_of_ble_eq_true rfl) ?_
  refine v_istore_n (ls1 := [(1, .int x1), (0, .ref this)]) dX4_readAll_4 rfl (by decide) rfl ?_
  refine v_aload_n dX4_readAll_5 rfl rfl ?_
  refine v_iload_n dX4_readAll_6 rfl rfl ?_
  rcases bWW_some h with ⟨x3, f5, hx4, h⟩ | ⟨e9, f5, hx4, h⟩
  rotate_left
  · cases h
    have ehx4 := tX4_takeAll (l := l) (g := g) (sz := sz) N this x1 f hx4
    exact v_cVx dX4_readAll_7 ml_X4_28 ok_X4_takeAll ehx4 (kX4_takeAll N this x1 f hx4) rfl (by decide) rfl (rest := []) rfl (Nat.le_of_ble_eq_true rfl) rfl rfl
  have ehx4 := tX4_takeAll (l := l) (g := g) (sz := sz) N this x1 f hx4
  refine v_cVU dX4_readAll_7 ml_X4_28 ok_X4_takeAll ehx4 (kX4_takeAll N this x1 f hx4) rfl (by decide) rfl (rest := []) rfl (Nat.le_of_ble_eq_true rfl) ?_
  refine v_aload_n dX4_readAll_10 rfl rfl ?_
  obtain ⟨x6, hx6, h⟩ := ob_some h
  refine v_getR dX4_readAll_11 fl_X4_14 hx6 ?_
  obtain ⟨x7, f9, hx8, h⟩ := bW_some h
  have ehx8 := tX5_clear (l := l) (g := g) (sz := sz) N x6 f5 hx8
  refine v_cVU dX4_readAll_14 ml_X4_31 ok_X5_clear ehx8 (kX5_clear N x6 f5 hx8) rfl (by decide) rfl (rest := []) rfl (Nat.le_of_ble_eq_true rfl) ?_
  refine v_iload_n dX4_readAll_17 rfl rfl ?_
  obtain rfl := Option.some.inj h
  exact v_iret dX4_readAll_18 rfl rfl

