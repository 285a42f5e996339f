/-! CONSTRUCTORS -/
theorem oi_X5_3 : Cond.methodLink RX5 3 Lib.objectInit ∈ TB ∧ Cond.instanceMethod Lib.objectInit ∈ TB ∧ Cond.code Lib.objectInit ⟨#[0xb1]⟩ 1 none ∈ TB := ⟨tbm (tt_1 49 (by rfl)) rfl, tbm (tt_1 29 (by rfl)) rfl, tbm (tt_1 30 (by rfl)) rfl⟩
theorem ac_I : Cond.arrayClass .int ∈ TB := tbm (tt_1 60 (by rfl)) rfl
theorem oi_X2_3 : Cond.methodLink RX2 3 Lib.objectInit ∈ TB ∧ Cond.instanceMethod Lib.objectInit ∈ TB ∧ Cond.code Lib.objectInit ⟨#[0xb1]⟩ 1 none ∈ TB := ⟨tbm (tt_1 43 (by rfl)) rfl, tbm (tt_1 29 (by rfl)) rfl, tbm (tt_1 30 (by rfl)) rfl⟩
theorem nw_X2_15 : newOk RX2 15 4 2 [.null, .int 0] := ⟨_, rfl, rfl, tbm (tt_1 44 (by rfl)) rfl, tbm (tt_1 45 (by rfl)) rfl, tbm (tt_1 4 (by rfl)) rfl, tyX5, tyX5_ok, by decide +kernel⟩
theorem oi_X6_3 : Cond.methodLink RX6 3 Lib.objectInit ∈ TB ∧ Cond.instanceMethod Lib.objectInit ∈ TB ∧ Cond.code Lib.objectInit ⟨#[0xb1]⟩ 1 none ∈ TB := ⟨tbm (tt_1 36 (by rfl)) rfl, tbm (tt_1 29 (by rfl)) rfl, tbm (tt_1 30 (by rfl)) rfl⟩
theorem cl_F : Cond.classLink RX6 9 "FormFields$Field" ∈ TB := tbm (tt_1 37 (by rfl)) rfl
theorem nw_X6_9 : newOk RX6 9 1 17 [.int 0, .int 0, .int 0, .int 0, .int 0, .int 0, .int 0, .null, .null, .null, .int 0, .long 0, .long 0, .int 0, .int 0, .int 0, .int 0] := ⟨_, rfl, rfl, tbm (tt_1 37 (by rfl)) rfl, tbm (tt_1 39 (by rfl)) rfl, tbm (tt_1 3 (by rfl)) rfl, tyX2, tyX2_ok, by decide +kernel⟩
theorem oi_X3_3 : Cond.methodLink RX3 3 Lib.objectInit ∈ TB ∧ Cond.instanceMethod Lib.objectInit ∈ TB ∧ Cond.code Lib.objectInit ⟨#[0xb1]⟩ 1 none ∈ TB := ⟨tbm (tt_1 234 (by rfl)) rfl, tbm (tt_1 29 (by rfl)) rfl, tbm (tt_1 30 (by rfl)) rfl⟩
theorem cl_M : Cond.classLink RX3 21 "[[I" ∈ TB := tbm (tt_1 236 (by rfl)) rfl
theorem oi_X7_3 : Cond.methodLink RX7 3 Lib.objectInit ∈ TB ∧ Cond.instanceMethod Lib.objectInit ∈ TB ∧ Cond.code Lib.objectInit ⟨#[0xb1]⟩ 1 none ∈ TB := ⟨tbm (tt_1 161 (by rfl)) rfl, tbm (tt_1 29 (by rfl)) rfl, tbm (tt_1 30 (by rfl)) rfl⟩
theorem nw_X7_9 : newOk RX7 9 4 2 [.null, .int 0] := ⟨_, rfl, rfl, tbm (tt_1 162 (by rfl)) rfl, tbm (tt_1 45 (by rfl)) rfl, tbm (tt_1 4 (by rfl)) rfl, tyX5, tyX5_ok, by decide +kernel⟩
theorem oi_X1_3 : Cond.methodLink RX1 3 Lib.objectInit ∈ TB ∧ Cond.instanceMethod Lib.objectInit ∈ TB ∧ Cond.code Lib.objectInit ⟨#[0xb1]⟩ 1 none ∈ TB := ⟨tbm (tt_1 173 (by rfl)) rfl, tbm (tt_1 29 (by rfl)) rfl, tbm (tt_1 30 (by rfl)) rfl⟩
theorem ac_L : Cond.arrayClass .long ∈ TB := tbm (tt_1 193 (by rfl)) rfl
theorem nw_X1_18 : newOk RX1 18 4 2 [.null, .int 0] := ⟨_, rfl, rfl, tbm (tt_1 174 (by rfl)) rfl, tbm (tt_1 45 (by rfl)) rfl, tbm (tt_1 4 (by rfl)) rfl, tyX5, tyX5_ok, by decide +kernel⟩
theorem oi_X8_3 : Cond.methodLink RX8 3 Lib.objectInit ∈ TB ∧ Cond.instanceMethod Lib.objectInit ∈ TB ∧ Cond.code Lib.objectInit ⟨#[0xb1]⟩ 1 none ∈ TB := ⟨tbm (tt_1 199 (by rfl)) rfl, tbm (tt_1 29 (by rfl)) rfl, tbm (tt_1 30 (by rfl)) rfl⟩
theorem nw_X8_9 : newOk RX8 9 4 2 [.null, .int 0] := ⟨_, rfl, rfl, tbm (tt_1 200 (by rfl)) rfl, tbm (tt_1 45 (by rfl)) rfl, tbm (tt_1 4 (by rfl)) rfl, tyX5, tyX5_ok, by decide +kernel⟩
theorem oi_X4_3 : Cond.methodLink RX4 3 Lib.objectInit ∈ TB ∧ Cond.instanceMethod Lib.objectInit ∈ TB ∧ Cond.code Lib.objectInit ⟨#[0xb1]⟩ 1 none ∈ TB := ⟨tbm (tt_1 218 (by rfl)) rfl, tbm (tt_1 29 (by rfl)) rfl, tbm (tt_1 30 (by rfl)) rfl⟩
theorem nw_X4_9 : newOk RX4 9 4 2 [.null, .int 0] := ⟨_, rfl, rfl, tbm (tt_1 219 (by rfl)) rfl, tbm (tt_1 45 (by rfl)) rfl, tbm (tt_1 4 (by rfl)) rfl, tyX5, tyX5_ok, by decide +kernel⟩
theorem oi_X9_3 : Cond.methodLink RX9 3 Lib.objectInit ∈ TB ∧ Cond.instanceMethod Lib.objectInit ∈ TB ∧ Cond.code Lib.objectInit ⟨#[0xb1]⟩ 1 none ∈ TB := ⟨tbm (tt_1 28 (by rfl)) rfl, tbm (tt_1 29 (by rfl)) rfl, tbm (tt_1 30 (by rfl)) rfl⟩
theorem nw_X9_9 : newOk RX9 9 5 2 [.null, .int 0] := ⟨_, rfl, rfl, tbm (tt_1 31 (by rfl)) rfl, tbm (tt_1 32 (by rfl)) rfl, tbm (tt_1 2 (by rfl)) rfl, tyX6, tyX6_ok, by decide +kernel⟩
theorem nw_X9_18 : newOk RX9 18 6 1 [.null] := ⟨_, rfl, rfl, tbm (tt_1 156 (by rfl)) rfl, tbm (tt_1 157 (by rfl)) rfl, tbm (tt_1 6 (by rfl)) rfl, tyX7, tyX7_ok, by decide +kernel⟩
theorem nw_X9_25 : newOk RX9 25 0 5 [.null, .null, .null, .null, .null] := ⟨_, rfl, rfl, tbm (tt_1 168 (by rfl)) rfl, tbm (tt_1 169 (by rfl)) rfl, tbm (tt_1 7 (by rfl)) rfl, tyX1, tyX1_ok, by decide +kernel⟩
theorem nw_X9_34 : newOk RX9 34 7 3 [.null, .null, .null] := ⟨_, rfl, rfl, tbm (tt_1 194 (by rfl)) rfl, tbm (tt_1 195 (by rfl)) rfl, tbm (tt_1 8 (by rfl)) rfl, tyX8, tyX8_ok, by decide +kernel⟩
theorem nw_X9_41 : newOk RX9 41 3 2 [.null, .null] := ⟨_, rfl, rfl, tbm (tt_1 213 (by rfl)) rfl, tbm (tt_1 214 (by rfl)) rfl, tbm (tt_1 9 (by rfl)) rfl, tyX4, tyX4_ok, by decide +kernel⟩
theorem nw_X9_48 : newOk RX9 48 2 3 [.null, .int 0, .int 0] := ⟨_, rfl, rfl, tbm (tt_1 229 (by rfl)) rfl, tbm (tt_1 230 (by rfl)) rfl, tbm (tt_1 10 (by rfl)) rfl, tyX3, tyX3_ok, by decide +kernel⟩
theorem oi_X10_1 : Cond.methodLink RX10 1 Lib.objectInit ∈ TB ∧ Cond.instanceMethod Lib.objectInit ∈ TB ∧ Cond.code Lib.objectInit ⟨#[0xb1]⟩ 1 none ∈ TB := ⟨tbm (tt_5 24 (by rfl)) rfl, tbm (tt_1 29 (by rfl)) rfl, tbm (tt_1 30 (by rfl)) rfl⟩
theorem ac_Z : Cond.arrayClass .boolean ∈ TB := tbm (tt_5 140 (by rfl)) rfl
def DX5_init (N : Nat) (this : Nat) (p0 : Int32) (f : HF) (n : Nat) : Option (HF × Nat) :=
  if ¬ (mxI p0 (0 : Int32)) < 0 ∧ (mxI p0 (0 : Int32)).toNatClampNeg ≤ 3000 then
  (some (hup f n (.inl (0, ((mxI p0 (0 : Int32)).toNatClampNeg, .inl (fun _ => 0)))))).bind fun f1 =>
  (pV f1 this 4 0 (.ref n)).bind fun f2 =>
  some (f2, (n + 1))
  else none

set_option maxRecDepth 20000 in
theorem tX5_init {l : Launch} {g : GT} (N : Nat) (this : Nat) (p0 : Int32) (f : HF) (n : Nat) {r : HF × Nat} (h : DX5_init N this p0 f n = some r) : Mt l g yX5_init cX5_init 2 (Option.none : Option Jvm.ClassFile.FieldType) 1 [.ref this, .int p0] f (some n) (.inl none, r.1, some r.2, 1, 3000) := by
  unfold DX5_init at h
  refine mt_of (by decide) (Nat.le_of_ble_eq_true rfl) (?_ : V l g (fun _ => True) (RX5, cX5_init, 2, (Option.none : Option Jvm.ClassFile.FieldType), [], "<init>") 1 (.inl none, r.1, some r.2, 1, 3000) 0 [(0, .ref this), (1, .int p0)] [] f (some n) 0 0)
  refine v_aload_n dX5_init_0 rfl rfl ?_
  refine v_objInit dX5_init_1 oi_X5_3 (by decide) (Nat.le_of_ble_eq_true rfl) ?_
  refine v_aload_n dX5_init_4 rfl rfl ?_
  refine v_iload_n dX5_init_5 rfl rfl ?_
  refine v_iconst (v := 0) dX5_init_6 (by decide) ?_
  refine v_mmaxG dX5_init_7 ml_X5_9 ok_J9_max_7cf53 (by decide) (Nat.le_of_ble_eq_true rfl) ⟨Nat.le_of_ble_eq_true rfl, Nat.le_of_ble_eq_true rfl⟩ ?_
  obtain ⟨⟨hg1, hg2⟩, h⟩ := if_some h
  obtain ⟨f1, hf1, h⟩ := ob_some h
  obtain rfl := Option.some.inj hf1
  refine v_newI dX5_init_10 ac_I hg1 rfl (by omega) (Nat.le_of_ble_eq_true rfl) (by show _ ≤ 3000; omega) ?_
  obtain ⟨f2, hf2, h⟩ := ob_some h
  refine v_putF dX5_init_12 ff_X5_15 rfl rfl rfl hf2 ?_
  obtain rfl := Option.some.inj h
  exact v_vretW dX5_init_15 rfl rfl (by omega) (by omega)

def DX2_init (N : Nat) (this : Nat) (f : HF) (n : Nat) : Option (HF × Nat) :=
  (some (hup f n (.inl (0, (8, .inl (fun _ => 0)))))).bind fun f1 =>
  (pV f1 this 1 7 (.ref n)).bind fun f2 =>
  (some (hup f2 (n + 1) (.inr (4, [.null, .int 0])))).bind fun f3 =>
  (DX5_init N (n + 1) (30 : Int32) f3 ((n + 1) + 1)).bind fun q4 =>
  (pV q4.1 this 1 8 (.ref (n + 1))).bind fun f5 =>
  (some (hup f5 q4.2 (.inr (4, [.null, .int 0])))).bind fun f6 =>
  (DX5_init N q4.2 (12 : Int32) f6 (q4.2 + 1)).bind fun q7 =>
  (pV q7.1 this 1 9 (.ref q4.2)).bind fun f8 =>
  (pV f8 this 1 11 (.long (-999999999999 : Int64))).bind fun f9 =>
  (pV f9 this 1 12 (.long (999999999999 : Int64))).bind fun f10 =>
  (pV f10 this 1 13 (.int (-1 : Int32))).bind fun f11 =>
  some (f11, q7.2)

set_option maxRecDepth 20000 in
theorem tX2_init {l : Launch} {g : GT} (N : Nat) (this : Nat) (f : HF) (n : Nat) {r : HF × Nat} (h : DX2_init N this f n = some r) : Mt l g yX2_init cX2_init 1 (Option.none : Option Jvm.ClassFile.FieldType) 2 [.ref this] f (some n) (.inl none, r.1, some r.2, 5, 6012) := by
  unfold DX2_init at h
  refine mt_of (by decide) (Nat.le_of_ble_eq_true rfl) (?_ : V l g (fun _ => True) (RX2, cX2_init, 1, (Option.none : Option Jvm.ClassFile.FieldType), [], "<init>") 2 (.inl none, r.1, some r.2, 5, 6012) 0 [(0, .ref this)] [] f (some n) 0 0)
  refine v_aload_n dX2_init_0 rfl rfl ?_
  refine v_objInit dX2_init_1 oi_X2_3 (by decide) (Nat.le_of_ble_eq_true rfl) ?_
  refine v_aload_n dX2_init_4 rfl rfl ?_
  refine v_bipush (v := 8) dX2_init_5 (by decide) ?_
  obtain ⟨f1, hf1, h⟩ := ob_some h
  obtain rfl := Option.some.inj hf1
  refine v_newI (K := 8) dX2_init_7 ac_I (by decide) (by decide) (by decide) (Nat.le_of_ble_eq_true rfl) (Nat.le_of_ble_eq_true rfl) ?_
  obtain ⟨f2, hf2, h⟩ := ob_some h
  refine v_putF dX2_init_9 ff_X2_9 rfl rfl rfl hf2 ?_
  refine v_aload_n dX2_init_12 rfl rfl ?_
  obtain ⟨f3, hf3, h⟩ := ob_some h
  obtain rfl := Option.some.inj hf3
  refine v_new dX2_init_13 nw_X2_15 (Nat.le_of_ble_eq_true rfl) (Nat.le_of_ble_eq_true rfl) ?_
  refine v_dup dX2_init_16 rfl ?_
  refine v_bipush (v := 30) dX2_init_17 (by decide) ?_
  obtain ⟨q4, hq4, h⟩ := ob_some h
  have eq4 := tX5_init (l := l) (g := g) N (n + 1) (30 : Int32) _ _ hq4
  refine v_callI dX2_init_19 ml_X2_17 ok_X5_init eq4 (by decide) rfl (rest := [.ref (n + 1), .ref this]) rfl (Nat.le_of_ble_eq_true rfl) ⟨Nat.le_of_ble_eq_true rfl, Nat.le_of_ble_eq_true rfl⟩ ?_
  obtain ⟨f5, hf5, h⟩ := ob_some h
  refine v_putF dX2_init_22 ff_X2_20 rfl rfl rfl hf5 ?_
  refine v_aload_n dX2_init_25 rfl rfl ?_
  obtain ⟨f6, hf6, h⟩ := ob_some h
  obtain rfl := Option.some.inj hf6
  refine v_new dX2_init_26 nw_X2_15 (Nat.le_of_ble_eq_true rfl) (Nat.le_of_ble_eq_true rfl) ?_
  refine v_dup dX2_init_29 rfl ?_
  refine v_bipush (v := 12) dX2_init_30 (by decide) ?_
  obtain ⟨q7, hq7, h⟩ := ob_some h
  have eq7 := tX5_init (l := l) (g := g) N q4.2 (12 : Int32) _ _ hq7
  refine v_callI dX2_init_32 ml_X2_17 ok_X5_init eq7 (by decide) rfl (rest := [.ref q4.2, .ref this]) rfl (Nat.le_of_ble_eq_true rfl) ⟨Nat.le_of_ble_eq_true rfl, Nat.le_of_ble_eq_true rfl⟩ ?_
  obtain ⟨f8, hf8, h⟩ := ob_some h
  refine v_putF dX2_init_35 ff_X2_24 rfl rfl rfl hf8 ?_
  refine v_aload_n dX2_init_38 rfl rfl ?_
  refine v_ldc2 dX2_init_39 kc_X2_27 ?_
  obtain ⟨f9, hf9, h⟩ := ob_some h
  refine v_putV dX2_init_42 fp_X2_29 rfl rfl hf9 ?_
  refine v_aload_n dX2_init_45 rfl rfl ?_
  refine v_ldc2 dX2_init_46 kc_X2_33 ?_
  obtain ⟨f10, hf10, h⟩ := ob_some h
  refine v_putV dX2_init_49 fp_X2_35 rfl rfl hf10 ?_
  refine v_aload_n dX2_init_52 rfl rfl ?_
  refine v_iconst (v := -1) dX2_init_53 (by decide) ?_
  obtain ⟨f11, hf11, h⟩ := ob_some h
  refine v_putV dX2_init_54 fp_X2_38 rfl rfl hf11 ?_
  obtain rfl := Option.some.inj h
  exact v_vretW dX2_init_57 rfl rfl (by omega) (by omega)

def DX6_init_15 (N : Nat) (w : Nat) (v0 : Nat) (v1 : Int32) (f : HF) (n c z : Nat) : Option (HF × Nat) :=
  match w with
  | 0 => none
  | w + 1 =>
    (gR f v0 5 0).bind fun x3 =>
    (aLen f x3 3).bind fun x4 =>
    if x4 ≤ v1 then
      if c ≤ 241 ∧ z ≤ 241200 then some (f, n) else none
    else
      (gR f v0 5 0).bind fun x6 =>
      if c + 6 ≤ 241 ∧ z + 6029 ≤ 241200 then
      (some (hup f n (.inr (1, [.int 0, .int 0, .int 0, .int 0, .int 0, .int 0, .int 0, .null, .null, .null, .int 0, .long 0, .long 0, .int 0, .int 0, .int 0, .int 0])))).bind fun f7 =>
      (DX2_init N n f7 (n + 1)).bind fun q8 =>
      (ck q8.1 n 1).bind fun _ =>
      (sR q8.1 x6 v1 n).bind fun f9 =>
      DX6_init_15 N w v0 (v1 + 1) f9 q8.2 (c + 6) (z + 6029)
      else none

set_option maxRecDepth 20000 in
theorem tX6_init_15 {l : Launch} {g : GT} (N : Nat) {r : HF × Nat} : ∀ (w : Nat) (v0 : Nat) (v1 : Int32) (f : HF) (n c z : Nat), DX6_init_15 N w v0 v1 f n c z = some r → V l g (fun _ => True) (RX6, cX6_init, 2, (Option.none : Option Jvm.ClassFile.FieldType), [], "<init>") 3 (.inl none, r.1, some r.2, 241, 241200) 15 [(0, .ref v0), (1, .int v1)] [] f (some n) c z := by
  intro w
  induction w with
  | zero => intro v0 v1 f n c z h; cases h
  | succ w ih =>
    intro v0 v1 f n c z h
    rw [DX6_init_15] at h
    refine v_iload_n dX6_init_15 rfl rfl ?_
    refine v_aload_n dX6_init_16 rfl rfl ?_
    obtain ⟨x3, hx3, h⟩ := ob_some h
    refine v_getR dX6_init_17 fl_X6_11 hx3 ?_
    obtain ⟨x4, hx4, h⟩ := ob_some h
    refine v_alen dX6_init_20 rfl hx4 ?_
    refine v_icmp_ge (tgt := 43) dX6_init_21 (by decide) (fun c5 => ?_) (fun c5 => ?_)
    · replace h := ip_ c5 h
      obtain ⟨hg, h⟩ := if_some h
      obtain rfl := Option.some.inj h
      exact v_vretW dX6_init_43 rfl rfl hg.1 hg.2
    · replace h := in_ c5 h
      refine v_aload_n dX6_init_24 rfl rfl ?_
      obtain ⟨x6, hx6, h⟩ := ob_some h
      refine v_getR dX6_init_25 fl_X6_11 hx6 ?_
      refine v_iload_n dX6_init_28 rfl rfl ?_
      obtain ⟨hg, h⟩ := if_some h
      obtain ⟨f7, hf7, h⟩ := ob_some h
      obtain rfl := Option.some.inj hf7
      refine v_new dX6_init_29 nw_X6_9 (by show _ ≤ 241; omega) (by show _ ≤ 241200; omega) ?_
      refine v_dup dX6_init_32 rfl ?_
      obtain ⟨q8, hq8, h⟩ := ob_some h
      have eq8 := tX2_init (l := l) (g := g) N n _ _ hq8
      refine v_callI dX6_init_33 ml_X6_17 ok_X2_init eq8 (by decide) rfl (rest := [.ref n, .int v1, .ref x6]) rfl (Nat.le_of_ble_eq_true rfl) ⟨by show _ ≤ 241; omega, by show _ ≤ 241200; omega⟩ ?_
      obtain ⟨_, hu10, h⟩ := ob_some h
      obtain ⟨f9, hf9, h⟩ := ob_some h
      refine v_aast dX6_init_36 hu10 hf9 ?_
      refine v_iinc (v := (v1 + 1)) (ls1 := [(1, .int (v1 + 1)), (0, .ref v0)]) dX6_init_37 rfl rfl (by decide) rfl ?_
      refine v_goto (tgt := 15) dX6_init_40 (by decide) ?_
      exact v_sub (vs_c rfl (vs_c rfl vs_n)) (ih v0 (v1 + 1) _ _ _ _ h)

def DX6_init (N : Nat) (this : Nat) (f : HF) (n : Nat) : Option (HF × Nat) :=
  (some (hup f n (.inl (3, (40, .inr (.inr (.inr (.inr (fun _ => none))))))))).bind fun f1 =>
  (pV f1 this 5 0 (.ref n)).bind fun f2 =>
  DX6_init_15 N N this (0 : Int32) f2 (n + 1) 1 40

set_option maxRecDepth 20000 in
theorem tX6_init {l : Launch} {g : GT} (N : Nat) (this : Nat) (f : HF) (n : Nat) {r : HF × Nat} (h : DX6_init N this f n = some r) : Mt l g yX6_init cX6_init 2 (Option.none : Option Jvm.ClassFile.FieldType) 3 [.ref this] f (some n) (.inl none, r.1, some r.2, 241, 241200) := by
  unfold DX6_init at h
  refine mt_of (by decide) (Nat.le_of_ble_eq_true rfl) (?_ : V l g (fun _ => True) (RX6, cX6_init, 2, (Option.none : Option Jvm.ClassFile.FieldType), [], "<init>") 3 (.inl none, r.1, some r.2, 241, 241200) 0 [(0, .ref this)] [] f (some n) 0 0)
  refine v_aload_n dX6_init_0 rfl rfl ?_
  refine v_objInit dX6_init_1 oi_X6_3 (by decide) (Nat.le_of_ble_eq_true rfl) ?_
  refine v_aload_n dX6_init_4 rfl rfl ?_
  refine v_bipush (v := 40) dX6_init_5 (by decide) ?_
  obtain ⟨f1, hf1, h⟩ := ob_some h
  obtain rfl := Option.some.inj hf1
  refine v_newF (K := 40) dX6_init_7 cl_F (by decide) (by decide) (by decide) (Nat.le_of_ble_eq_true rfl) (Nat.le_of_ble_eq_true rfl) ?_
  obtain ⟨f2, hf2, h⟩ := ob_some h
  refine v_putF dX6_init_10 ff_X6_11 rfl rfl rfl hf2 ?_
  refine v_iconst (v := 0) dX6_init_13 (by decide) ?_
  refine v_istore_n (ls1 := [(1, .int (0 : Int32)), (0, .ref this)]) dX6_init_14 rfl (by decide) rfl ?_
  exact v_sub (vs_c rfl (vs_c rfl vs_n)) (tX6_init_15 N N this (0 : Int32) f2 (n + 1) 1 40 h)

def DX3_init (N : Nat) (this : Nat) (p0 : Int32) (f : HF) (n : Nat) : Option (HF × Nat) :=
  (pV f this 2 1 (.int (mxI p0 (0 : Int32)))).bind fun f1 =>
  (gI f1 this 2 1).bind fun x2 =>
  if ¬ x2 < 0 ∧ x2.toNatClampNeg ≤ 400 then
  (some (mna f1 n 5 x2.toNatClampNeg)).bind fun f3 =>
  (pV f3 this 2 0 (.ref n)).bind fun f4 =>
  some (f4, (n + 1 + 5))
  else none

set_option maxRecDepth 20000 in
theorem tX3_init {l : Launch} {g : GT} (N : Nat) (this : Nat) (p0 : Int32) (f : HF) (n : Nat) {r : HF × Nat} (h : DX3_init N this p0 f n = some r) : Mt l g yX3_init cX3_init 2 (Option.none : Option Jvm.ClassFile.FieldType) 1 [.ref this, .int p0] f (some n) (.inl none, r.1, some r.2, 6, 2005) := by
  unfold DX3_init at h
  refine mt_of (by decide) (Nat.le_of_ble_eq_true rfl) (?_ : V l g (fun _ => True) (RX3, cX3_init, 2, (Option.none : Option Jvm.ClassFile.FieldType), [], "<init>") 1 (.inl none, r.1, some r.2, 6, 2005) 0 [(0, .ref this), (1, .int p0)] [] f (some n) 0 0)
  refine v_aload_n dX3_init_0 rfl rfl ?_
  refine v_objInit dX3_init_1 oi_X3_3 (by decide) (Nat.le_of_ble_eq_true rfl) ?_
  refine v_aload_n dX3_init_4 rfl rfl ?_
  refine v_iload_n dX3_init_5 rfl rfl ?_
  refine v_iconst (v := 0) dX3_init_6 (by decide) ?_
  refine v_mmaxG dX3_init_7 ml_X3_9 ok_J9_max_7cf53 (by decide) (Nat.le_of_ble_eq_true rfl) ⟨Nat.le_of_ble_eq_true rfl, Nat.le_of_ble_eq_true rfl⟩ ?_
  obtain ⟨f1, hf1, h⟩ := ob_some h
  refine v_putF dX3_init_10 ff_X3_15 rfl rfl rfl hf1 ?_
  refine v_aload_n dX3_init_13 rfl rfl ?_
  refine v_iconst (v := 5) dX3_init_14 (by decide) ?_
  refine v_aload_n dX3_init_15 rfl rfl ?_
  obtain ⟨x2, hx2, h⟩ := ob_some h
  refine v_getI dX3_init_16 fl_X3_15 hx2 ?_
  obtain ⟨⟨hg1, hg2⟩, h⟩ := if_some h
  obtain ⟨f3, hf3, h⟩ := ob_some h
  obtain rfl := Option.some.inj hf3
  refine v_mna (A := 5) dX3_init_19 cl_M ac_I (by decide) hg1 (by decide) rfl ⟨by decide, by omega⟩ (Nat.le_of_ble_eq_true rfl) (by show _ ≤ 2005; omega) ?_
  obtain ⟨f4, hf4, h⟩ := ob_some h
  refine v_putF dX3_init_23 ff_X3_23 rfl rfl rfl hf4 ?_
  obtain rfl := Option.some.inj h
  exact v_vretW dX3_init_26 rfl rfl (by omega) (by omega)

def DX7_init (N : Nat) (this : Nat) (f : HF) (n : Nat) : Option (HF × Nat) :=
  (some (hup f n (.inr (4, [.null, .int 0])))).bind fun f1 =>
  (DX5_init N n (30 : Int32) f1 (n + 1)).bind fun q2 =>
  (pV q2.1 this 6 0 (.ref n)).bind fun f3 =>
  some (f3, q2.2)

set_option maxRecDepth 20000 in
theorem tX7_init {l : Launch} {g : GT} (N : Nat) (this : Nat) (f : HF) (n : Nat) {r : HF × Nat} (h : DX7_init N this f n = some r) : Mt l g yX7_init cX7_init 1 (Option.none : Option Jvm.ClassFile.FieldType) 2 [.ref this] f (some n) (.inl none, r.1, some r.2, 2, 3002) := by
  unfold DX7_init at h
  refine mt_of (by decide) (Nat.le_of_ble_eq_true rfl) (?_ : V l g (fun _ => True) (RX7, cX7_init, 1, (Option.none : Option Jvm.ClassFile.FieldType), [], "<init>") 2 (.inl none, r.1, some r.2, 2, 3002) 0 [(0, .ref this)] [] f (some n) 0 0)
  refine v_aload_n dX7_init_0 rfl rfl ?_
  refine v_objInit dX7_init_1 oi_X7_3 (by decide) (Nat.le_of_ble_eq_true rfl) ?_
  refine v_aload_n dX7_init_4 rfl rfl ?_
  obtain ⟨f1, hf1, h⟩ := ob_some h
  obtain rfl := Option.some.inj hf1
  refine v_new dX7_init_5 nw_X7_9 (Nat.le_of_ble_eq_true rfl) (Nat.le_of_ble_eq_true rfl) ?_
  refine v_dup dX7_init_8 rfl ?_
  refine v_bipush (v := 30) dX7_init_9 (by decide) ?_
  obtain ⟨q2, hq2, h⟩ := ob_some h
  have eq2 := tX5_init (l := l) (g := g) N n (30 : Int32) _ _ hq2
  refine v_callI dX7_init_11 ml_X7_11 ok_X5_init eq2 (by decide) rfl (rest := [.ref n, .ref this]) rfl (Nat.le_of_ble_eq_true rfl) ⟨Nat.le_of_ble_eq_true rfl, Nat.le_of_ble_eq_true rfl⟩ ?_
  obtain ⟨f3, hf3, h⟩ := ob_some h
  refine v_putF dX7_init_14 ff_X7_14 rfl rfl rfl hf3 ?_
  obtain rfl := Option.some.inj h
  exact v_vretW dX7_init_17 rfl rfl (by omega) (by omega)

def DX1_init (N : Nat) (this : Nat) (p0 : Nat) (f : HF) (n : Nat) : Option (HF × Nat) :=
  (some (hup f n (.inl (1, (40, .inr (.inl (fun _ => 0))))))).bind fun f1 =>
  (pV f1 this 0 1 (.ref n)).bind fun f2 =>
  (some (hup f2 (n + 1) (.inl (1, (40, .inr (.inl (fun _ => 0))))))).bind fun f3 =>
  (pV f3 this 0 2 (.ref (n + 1))).bind fun f4 =>
  (some (hup f4 ((n + 1) + 1) (.inr (4, [.null, .int 0])))).bind fun f5 =>
  (DX5_init N ((n + 1) + 1) (14 : Int32) f5 (((n + 1) + 1) + 1)).bind fun q6 =>
  (pV q6.1 this 0 3 (.ref ((n + 1) + 1))).bind fun f7 =>
  (some (hup f7 q6.2 (.inr (4, [.null, .int 0])))).bind fun f8 =>
  (DX5_init N q6.2 (40 : Int32) f8 (q6.2 + 1)).bind fun q9 =>
  (pV q9.1 this 0 4 (.ref q6.2)).bind fun f10 =>
  (pV f10 this 0 0 (.ref p0)).bind fun f11 =>
  some (f11, q9.2)

set_option maxRecDepth 20000 in
theorem tX1_init {l : Launch} {g : GT} (N : Nat) (this : Nat) (p0 : Nat) (f : HF) (n : Nat) {r : HF × Nat} (h : DX1_init N this p0 f n = some r) : Mt l g yX1_init cX1_init 2 (Option.none : Option Jvm.ClassFile.FieldType) 2 [.ref this, .ref p0] f (some n) (.inl none, r.1, some r.2, 6, 6084) := by
  unfold DX1_init at h
  refine mt_of (by decide) (Nat.le_of_ble_eq_true rfl) (?_ : V l g (fun _ => True) (RX1, cX1_init, 2, (Option.none : Option Jvm.ClassFile.FieldType), [], "<init>") 2 (.inl none, r.1, some r.2, 6, 6084) 0 [(0, .ref this), (1, .ref p0)] [] f (some n) 0 0)
  refine v_aload_n dX1_init_0 rfl rfl ?_
  refine v_objInit dX1_init_1 oi_X1_3 (by decide) (Nat.le_of_ble_eq_true rfl) ?_
  refine v_aload_n dX1_init_4 rfl rfl ?_
  refine v_bipush (v := 40) dX1_init_5 (by decide) ?_
  obtain ⟨f1, hf1, h⟩ := ob_some h
  obtain rfl := Option.some.inj hf1
  refine v_newL (K := 40) dX1_init_7 ac_L (by decide) (by decide) (by decide) (Nat.le_of_ble_eq_true rfl) (Nat.le_of_ble_eq_true rfl) ?_
  obtain ⟨f2, hf2, h⟩ := ob_some h
  refine v_putF dX1_init_9 ff_X1_9 rfl rfl rfl hf2 ?_
  refine v_aload_n dX1_init_12 rfl rfl ?_
  refine v_bipush (v := 40) dX1_init_13 (by decide) ?_
  obtain ⟨f3, hf3, h⟩ := ob_some h
  obtain rfl := Option.some.inj hf3
  refine v_newL (K := 40) dX1_init_15 ac_L (by decide) (by decide) (by decide) (Nat.le_of_ble_eq_true rfl) (Nat.le_of_ble_eq_true rfl) ?_
  obtain ⟨f4, hf4, h⟩ := ob_some h
  refine v_putF dX1_init_17 ff_X1_15 rfl rfl rfl hf4 ?_
  refine v_aload_n dX1_init_20 rfl rfl ?_
  obtain ⟨f5, hf5, h⟩ := ob_some h
  obtain rfl := Option.some.inj hf5
  refine v_new dX1_init_21 nw_X1_18 (Nat.le_of_ble_eq_true rfl) (Nat.le_of_ble_eq_true rfl) ?_
  refine v_dup dX1_init_24 rfl ?_
  refine v_bipush (v := 14) dX1_init_25 (by decide) ?_
  obtain ⟨q6, hq6, h⟩ := ob_some h
  have eq6 := tX5_init (l := l) (g := g) N ((n + 1) + 1) (14 : Int32) _ _ hq6
  refine v_callI dX1_init_27 ml_X1_20 ok_X5_init eq6 (by decide) rfl (rest := [.ref ((n + 1) + 1), .ref this]) rfl (Nat.le_of_ble_eq_true rfl) ⟨Nat.le_of_ble_eq_true rfl, Nat.le_of_ble_eq_true rfl⟩ ?_
  obtain ⟨f7, hf7, h⟩ := ob_some h
  refine v_putF dX1_init_30 ff_X1_23 rfl rfl rfl hf7 ?_
  refine v_aload_n dX1_init_33 rfl rfl ?_
  obtain ⟨f8, hf8, h⟩ := ob_some h
  obtain rfl := Option.some.inj hf8
  refine v_new dX1_init_34 nw_X1_18 (Nat.le_of_ble_eq_true rfl) (Nat.le_of_ble_eq_true rfl) ?_
  refine v_dup dX1_init_37 rfl ?_
  refine v_bipush (v := 40) dX1_init_38 (by decide) ?_
  obtain ⟨q9, hq9, h⟩ := ob_some h
  have eq9 := tX5_init (l := l) (g := g) N q6.2 (40 : Int32) _ _ hq9
  refine v_callI dX1_init_40 ml_X1_20 ok_X5_init eq9 (by decide) rfl (rest := [.ref q6.2, .ref this]) rfl (Nat.le_of_ble_eq_true rfl) ⟨Nat.le_of_ble_eq_true rfl, Nat.le_of_ble_eq_true rfl⟩ ?_
  obtain ⟨f10, hf10, h⟩ := ob_some h
  refine v_putF dX1_init_43 ff_X1_27 rfl rfl rfl hf10 ?_
  refine v_aload_n dX1_init_46 rfl rfl ?_
  refine v_aload_n dX1_init_47 rfl rfl ?_
  obtain ⟨f11, hf11, h⟩ := ob_some h
  refine v_putF dX1_init_48 ff_X1_30 rfl rfl rfl hf11 ?_
  obtain rfl := Option.some.inj h
  exact v_vretW dX1_init_51 rfl rfl (by omega) (by omega)

def DX8_init (N : Nat) (this : Nat) (p0 : Nat) (f : HF) (n : Nat) : Option (HF × Nat) :=
  (some (hup f n (.inr (4, [.null, .int 0])))).bind fun f1 =>
  (DX5_init N n (2400 : Int32) f1 (n + 1)).bind fun q2 =>
  (pV q2.1 this 7 1 (.ref n)).bind fun f3 =>
  (some (hup f3 q2.2 (.inr (4, [.null, .int 0])))).bind fun f4 =>
  (DX5_init N q2.2 (40 : Int32) f4 (q2.2 + 1)).bind fun q5 =>
  (pV q5.1 this 7 2 (.ref q2.2)).bind fun f6 =>
  (pV f6 this 7 0 (.ref p0)).bind fun f7 =>
  some (f7, q5.2)

set_option maxRecDepth 20000 in
theorem tX8_init {l : Launch} {g : GT} (N : Nat) (this : Nat) (p0 : Nat) (f : HF) (n : Nat) {r : HF × Nat} (h : DX8_init N this p0 f n = some r) : Mt l g yX8_init cX8_init 2 (Option.none : Option Jvm.ClassFile.FieldType) 2 [.ref this, .ref p0] f (some n) (.inl none, r.1, some r.2, 4, 6004) := by
  unfold DX8_init at h
  refine mt_of (by decide) (Nat.le_of_ble_eq_true rfl) (?_ : V l g (fun _ => True) (RX8, cX8_init, 2, (Option.none : Option Jvm.ClassFile.FieldType), [], "<init>") 2 (.inl none, r.1, some r.2, 4, 6004) 0 [(0, .ref this), (1, .ref p0)] [] f (some n) 0 0)
  refine v_aload_n dX8_init_0 rfl rfl ?_
  refine v_objInit dX8_init_1 oi_X8_3 (by decide) (Nat.le_of_ble_eq_true rfl) ?_
  refine v_aload_n dX8_init_4 rfl rfl ?_
  obtain ⟨f1, hf1, h⟩ := ob_some h
  obtain rfl := Option.some.inj hf1
  refine v_new dX8_init_5 nw_X8_9 (Nat.le_of_ble_eq_true rfl) (Nat.le_of_ble_eq_true rfl) ?_
  refine v_dup dX8_init_8 rfl ?_
  refine v_sipush (v := 2400) dX8_init_9 (by decide) ?_
  obtain ⟨q2, hq2, h⟩ := ob_some h
  have eq2 := tX5_init (l := l) (g := g) N n (2400 : Int32) _ _ hq2
  refine v_callI dX8_init_12 ml_X8_11 ok_X5_init eq2 (by decide) rfl (rest := [.ref n, .ref this]) rfl (Nat.le_of_ble_eq_true rfl) ⟨Nat.le_of_ble_eq_true rfl, Nat.le_of_ble_eq_true rfl⟩ ?_
  obtain ⟨f3, hf3, h⟩ := ob_some h
  refine v_putF dX8_init_15 ff_X8_14 rfl rfl rfl hf3 ?_
  refine v_aload_n dX8_init_18 rfl rfl ?_
  obtain ⟨f4, hf4, h⟩ := ob_some h
  obtain rfl := Option.some.inj hf4
  refine v_new dX8_init_19 nw_X8_9 (Nat.le_of_ble_eq_true rfl) (Nat.le_of_ble_eq_true rfl) ?_
  refine v_dup dX8_init_22 rfl ?_
  refine v_bipush (v := 40) dX8_init_23 (by decide) ?_
  obtain ⟨q5, hq5, h⟩ := ob_some h
  have eq5 := tX5_init (l := l) (g := g) N q2.2 (40 : Int32) _ _ hq5
  refine v_callI dX8_init_25 ml_X8_11 ok_X5_init eq5 (by decide) rfl (rest := [.ref q2.2, .ref this]) rfl (Nat.le_of_ble_eq_true rfl) ⟨Nat.le_of_ble_eq_true rfl, Nat.le_of_ble_eq_true rfl⟩ ?_
  obtain ⟨f6, hf6, h⟩ := ob_some h
  refine v_putF dX8_init_28 ff_X8_20 rfl rfl rfl hf6 ?_
  refine v_aload_n dX8_init_31 rfl rfl ?_
  refine v_aload_n dX8_init_32 rfl rfl ?_
  obtain ⟨f7, hf7, h⟩ := ob_some h
  refine v_putF dX8_init_33 ff_X8_23 rfl rfl rfl hf7 ?_
  obtain rfl := Option.some.inj h
  exact v_vretW dX8_init_36 rfl rfl (by omega) (by omega)

def DX4_init (N : Nat) (this : Nat) (p0 : Nat) (f : HF) (n : Nat) : Option (HF × Nat) :=
  (some (hup f n (.inr (4, [.null, .int 0])))).bind fun f1 =>
  (DX5_init N n (3000 : Int32) f1 (n + 1)).bind fun q2 =>
  (pV q2.1 this 3 1 (.ref n)).bind fun f3 =>
  (pV f3 this 3 0 (.ref p0)).bind fun f4 =>
  some (f4, q2.2)

set_option maxRecDepth 20000 in
theorem tX4_init {l : Launch} {g : GT} (N : Nat) (this : Nat) (p0 : Nat) (f : HF) (n : Nat) {r : HF × Nat} (h : DX4_init N this p0 f n = some r) : Mt l g yX4_init cX4_init 2 (Option.none : Option Jvm.ClassFile.FieldType) 2 [.ref this, .ref p0] f (some n) (.inl none, r.1, some r.2, 2, 3002) := by
  unfold DX4_init at h
  refine mt_of (by decide) (Nat.le_of_ble_eq_true rfl) (?_ : V l g (fun _ => True) (RX4, cX4_init, 2, (Option.none : Option Jvm.ClassFile.FieldType), [], "<init>") 2 (.inl none, r.1, some r.2, 2, 3002) 0 [(0, .ref this), (1, .ref p0)] [] f (some n) 0 0)
  refine v_aload_n dX4_init_0 rfl rfl ?_
  refine v_objInit dX4_init_1 oi_X4_3 (by decide) (Nat.le_of_ble_eq_true rfl) ?_
  refine v_aload_n dX4_init_4 rfl rfl ?_
  obtain ⟨f1, hf1, h⟩ := ob_some h
  obtain rfl := Option.some.inj hf1
  refine v_new dX4_init_5 nw_X4_9 (Nat.le_of_ble_eq_true rfl) (Nat.le_of_ble_eq_true rfl) ?_
  refine v_dup dX4_init_8 rfl ?_
  refine v_sipush (v := 3000) dX4_init_9 (by decide) ?_
  obtain ⟨q2, hq2, h⟩ := ob_some h
  have eq2 := tX5_init (l := l) (g := g) N n (3000 : Int32) _ _ hq2
  refine v_callI dX4_init_12 ml_X4_11 ok_X5_init eq2 (by decide) rfl (rest := [.ref n, .ref this]) rfl (Nat.le_of_ble_eq_true rfl) ⟨Nat.le_of_ble_eq_true rfl, Nat.le_of_ble_eq_true rfl⟩ ?_
  obtain ⟨f3, hf3, h⟩ := ob_some h
  refine v_putF dX4_init_15 ff_X4_14 rfl rfl rfl hf3 ?_
  refine v_aload_n dX4_init_18 rfl rfl ?_
  refine v_aload_n dX4_init_19 rfl rfl ?_
  obtain ⟨f4, hf4, h⟩ := ob_some h
  refine v_putF dX4_init_20 ff_X4_20 rfl rfl rfl hf4 ?_
  obtain rfl := Option.some.inj h
  exact v_vretW dX4_init_23 rfl rfl (by omega) (by omega)

def DX9_init (N : Nat) (this : Nat) (f : HF) (n : Nat) : Option (HF × Nat) :=
  (some (hup f n (.inr (5, [.null, .int 0])))).bind fun f1 =>
  (DX6_init N n f1 (n + 1)).bind fun q2 =>
  (pV q2.1 this 8 0 (.ref n)).bind fun f3 =>
  (some (hup f3 q2.2 (.inr (6, [.null])))).bind fun f4 =>
  (DX7_init N q2.2 f4 (q2.2 + 1)).bind fun q5 =>
  (pV q5.1 this 8 1 (.ref q2.2)).bind fun f6 =>
  (some (hup f6 q5.2 (.inr (0, [.null, .null, .null, .null, .null])))).bind fun f7 =>
  (gR f7 this 8 0).bind fun x8 =>
  (DX1_init N q5.2 x8 f7 (q5.2 + 1)).bind fun q9 =>
  (pV q9.1 this 8 2 (.ref q5.2)).bind fun f10 =>
  (some (hup f10 q9.2 (.inr (7, [.null, .null, .null])))).bind fun f11 =>
  (gR f11 this 8 0).bind fun x12 =>
  (DX8_init N q9.2 x12 f11 (q9.2 + 1)).bind fun q13 =>
  (pV q13.1 this 8 3 (.ref q9.2)).bind fun f14 =>
  (some (hup f14 q13.2 (.inr (3, [.null, .null])))).bind fun f15 =>
  (gR f15 this 8 0).bind fun x16 =>
  (DX4_init N q13.2 x16 f15 (q13.2 + 1)).bind fun q17 =>
  (pV q17.1 this 8 4 (.ref q13.2)).bind fun f18 =>
  (some (hup f18 q17.2 (.inr (2, [.null, .int 0, .int 0])))).bind fun f19 =>
  (DX3_init N q17.2 (31 : Int32) f19 (q17.2 + 1)).bind fun q20 =>
  (pV q20.1 this 8 5 (.ref q17.2)).bind fun f21 =>
  (some (hup f21 q20.2 (.inr (2, [.null, .int 0, .int 0])))).bind fun f22 =>
  (DX3_init N q20.2 (400 : Int32) f22 (q20.2 + 1)).bind fun q23 =>
  (pV q23.1 this 8 6 (.ref q20.2)).bind fun f24 =>
  some (f24, q23.2)

set_option maxRecDepth 20000 in
theorem tX9_init {l : Launch} {g : GT} (N : Nat) (this : Nat) (f : HF) (n : Nat) {r : HF × Nat} (h : DX9_init N this f n = some r) : Mt l g yX9_init cX9_init 1 (Option.none : Option Jvm.ClassFile.FieldType) 4 [.ref this] f (some n) (.inl none, r.1, some r.2, 274, 263321) := by
  unfold DX9_init at h
  refine mt_of (by decide) (Nat.le_of_ble_eq_true rfl) (?_ : V l g (fun _ => True) (RX9, cX9_init, 1, (Option.none : Option Jvm.ClassFile.FieldType), [], "<init>") 4 (.inl none, r.1, some r.2, 274, 263321) 0 [(0, .ref this)] [] f (some n) 0 0)
  refine v_aload_n dX9_init_0 rfl rfl ?_
  refine v_objInit dX9_init_1 oi_X9_3 (by decide) (Nat.le_of_ble_eq_true rfl) ?_
  refine v_aload_n dX9_init_4 rfl rfl ?_
  obtain ⟨f1, hf1, h⟩ := ob_some h
  obtain rfl := Option.some.inj hf1
  refine v_new dX9_init_5 nw_X9_9 (Nat.le_of_ble_eq_true rfl) (Nat.le_of_ble_eq_true rfl) ?_
  refine v_dup dX9_init_8 rfl ?_
  obtain ⟨q2, hq2, h⟩ := ob_some h
  have eq2 := tX6_init (l := l) (g := g) N n _ _ hq2
  refine v_callI dX9_init_9 ml_X9_11 ok_X6_init eq2 (by decide) rfl (rest := [.ref n, .ref this]) rfl (Nat.le_of_ble_eq_true rfl) ⟨Nat.le_of_ble_eq_true rfl, Nat.le_of_ble_eq_true rfl⟩ ?_
  obtain ⟨f3, hf3, h⟩ := ob_some h
  refine v_putF dX9_init_12 ff_X9_12 rfl rfl rfl hf3 ?_
  refine v_aload_n dX9_init_15 rfl rfl ?_
  obtain ⟨f4, hf4, h⟩ := ob_some h
  obtain rfl := Option.some.inj hf4
  refine v_new dX9_init_16 nw_X9_18 (Nat.le_of_ble_eq_true rfl) (Nat.le_of_ble_eq_true rfl) ?_
  refine v_dup dX9_init_19 rfl ?_
  obtain ⟨q5, hq5, h⟩ := ob_some h
  have eq5 := tX7_init (l := l) (g := g) N q2.2 _ _ hq5
  refine v_callI dX9_init_20 ml_X9_20 ok_X7_init eq5 (by decide) rfl (rest := [.ref q2.2, .ref this]) rfl (Nat.le_of_ble_eq_true rfl) ⟨Nat.le_of_ble_eq_true rfl, Nat.le_of_ble_eq_true rfl⟩ ?_
  obtain ⟨f6, hf6, h⟩ := ob_some h
  refine v_putF dX9_init_23 ff_X9_21 rfl rfl rfl hf6 ?_
  refine v_aload_n dX9_init_26 rfl rfl ?_
  obtain ⟨f7, hf7, h⟩ := ob_some h
  obtain rfl := Option.some.inj hf7
  refine v_new dX9_init_27 nw_X9_25 (Nat.le_of_ble_eq_true rfl) (Nat.le_of_ble_eq_true rfl) ?_
  refine v_dup dX9_init_30 rfl ?_
  refine v_aload_n dX9_init_31 rfl rfl ?_
  obtain ⟨x8, hx8, h⟩ := ob_some h
  refine v_getR dX9_init_32 fl_X9_12 hx8 ?_
  obtain ⟨q9, hq9, h⟩ := ob_some h
  have eq9 := tX1_init (l := l) (g := g) N q5.2 x8 _ _ hq9
  refine v_callI dX9_init_35 ml_X9_27 ok_X1_init eq9 (by decide) rfl (rest := [.ref q5.2, .ref this]) rfl (Nat.le_of_ble_eq_true rfl) ⟨Nat.le_of_ble_eq_true rfl, Nat.le_of_ble_eq_true rfl⟩ ?_
  obtain ⟨f10, hf10, h⟩ := ob_some h
  refine v_putF dX9_init_38 ff_X9_30 rfl rfl rfl hf10 ?_
  refine v_aload_n dX9_init_41 rfl rfl ?_
  obtain ⟨f11, hf11, h⟩ := ob_some h
  obtain rfl := Option.some.inj hf11
  refine v_new dX9_init_42 nw_X9_34 (Nat.le_of_ble_eq_true rfl) (Nat.le_of_ble_eq_true rfl) ?_
  refine v_dup dX9_init_45 rfl ?_
  refine v_aload_n dX9_init_46 rfl rfl ?_
  obtain ⟨x12, hx12, h⟩ := ob_some h
  refine v_getR dX9_init_47 fl_X9_12 hx12 ?_
  obtain ⟨q13, hq13, h⟩ := ob_some h
  have eq13 := tX8_init (l := l) (g := g) N q9.2 x12 _ _ hq13
  refine v_callI dX9_init_50 ml_X9_36 ok_X8_init eq13 (by decide) rfl (rest := [.ref q9.2, .ref this]) rfl (Nat.le_of_ble_eq_true rfl) ⟨Nat.le_of_ble_eq_true rfl, Nat.le_of_ble_eq_true rfl⟩ ?_
  obtain ⟨f14, hf14, h⟩ := ob_some h
  refine v_putF dX9_init_53 ff_X9_37 rfl rfl rfl hf14 ?_
  refine v_aload_n dX9_init_56 rfl rfl ?_
  obtain ⟨f15, hf15, h⟩ := ob_some h
  obtain rfl := Option.some.inj hf15
  refine v_new dX9_init_57 nw_X9_41 (Nat.le_of_ble_eq_true rfl) (Nat.le_of_ble_eq_true rfl) ?_
  refine v_dup dX9_init_60 rfl ?_
  refine v_aload_n dX9_init_61 rfl rfl ?_
  obtain ⟨x16, hx16, h⟩ := ob_some h
  refine v_getR dX9_init_62 fl_X9_12 hx16 ?_
  obtain ⟨q17, hq17, h⟩ := ob_some h
  have eq17 := tX4_init (l := l) (g := g) N q13.2 x16 _ _ hq17
  refine v_callI dX9_init_65 ml_X9_43 ok_X4_init eq17 (by decide) rfl (rest := [.ref q13.2, .ref this]) rfl (Nat.le_of_ble_eq_true rfl) ⟨Nat.le_of_ble_eq_true rfl, Nat.le_of_ble_eq_true rfl⟩ ?_
  obtain ⟨f18, hf18, h⟩ := ob_some h
  refine v_putF dX9_init_68 ff_X9_44 rfl rfl rfl hf18 ?_
  refine v_aload_n dX9_init_71 rfl rfl ?_
  obtain ⟨f19, hf19, h⟩ := ob_some h
  obtain rfl := Option.some.inj hf19
  refine v_new dX9_init_72 nw_X9_48 (Nat.le_of_ble_eq_true rfl) (Nat.le_of_ble_eq_true rfl) ?_
  refine v_dup dX9_init_75 rfl ?_
  refine v_bipush (v := 31) dX9_init_76 (by decide) ?_
  obtain ⟨q20, hq20, h⟩ := ob_some h
  have eq20 := tX3_init (l := l) (g := g) N q17.2 (31 : Int32) _ _ hq20
  refine v_callI dX9_init_78 ml_X9_50 ok_X3_init eq20 (by decide) rfl (rest := [.ref q17.2, .ref this]) rfl (Nat.le_of_ble_eq_true rfl) ⟨Nat.le_of_ble_eq_true rfl, Nat.le_of_ble_eq_true rfl⟩ ?_
  obtain ⟨f21, hf21, h⟩ := ob_some h
  refine v_putF dX9_init_81 ff_X9_53 rfl rfl rfl hf21 ?_
  refine v_aload_n dX9_init_84 rfl rfl ?_
  obtain ⟨f22, hf22, h⟩ := ob_some h
  obtain rfl := Option.some.inj hf22
  refine v_new dX9_init_85 nw_X9_48 (Nat.le_of_ble_eq_true rfl) (Nat.le_of_ble_eq_true rfl) ?_
  refine v_dup dX9_init_88 rfl ?_
  refine v_sipush (v := 400) dX9_init_89 (by decide) ?_
  obtain ⟨q23, hq23, h⟩ := ob_some h
  have eq23 := tX3_init (l := l) (g := g) N q20.2 (400 : Int32) _ _ hq23
  refine v_callI dX9_init_92 ml_X9_50 ok_X3_init eq23 (by decide) rfl (rest := [.ref q20.2, .ref this]) rfl (Nat.le_of_ble_eq_true rfl) ⟨Nat.le_of_ble_eq_true rfl, Nat.le_of_ble_eq_true rfl⟩ ?_
  obtain ⟨f24, hf24, h⟩ := ob_some h
  refine v_putF dX9_init_95 ff_X9_57 rfl rfl rfl hf24 ?_
  obtain rfl := Option.some.inj h
  exact v_vretW dX9_init_98 rfl rfl (by omega) (by omega)

def DX10_init (N : Nat) (this : Nat) (f : HF) (n : Nat) : Option (HF × Nat) :=
  (some (hup f n (.inl (0, (40, .inl (fun _ => 0)))))).bind fun f1 =>
  (pV f1 this 9 2 (.ref n)).bind fun f2 =>
  (some (hup f2 (n + 1) (.inl (0, (40, .inl (fun _ => 0)))))).bind fun f3 =>
  (pV f3 this 9 3 (.ref (n + 1))).bind fun f4 =>
  (some (hup f4 ((n + 1) + 1) (.inl (0, (40, .inl (fun _ => 0)))))).bind fun f5 =>
  (pV f5 this 9 4 (.ref ((n + 1) + 1))).bind fun f6 =>
  (some (hup f6 (((n + 1) + 1) + 1) (.inl (0, (40, .inl (fun _ => 0)))))).bind fun f7 =>
  (pV f7 this 9 5 (.ref (((n + 1) + 1) + 1))).bind fun f8 =>
  (some (hup f8 ((((n + 1) + 1) + 1) + 1) (.inl (0, (40, .inl (fun _ => 0)))))).bind fun f9 =>
  (pV f9 this 9 6 (.ref ((((n + 1) + 1) + 1) + 1))).bind fun f10 =>
  (some (hup f10 (((((n + 1) + 1) + 1) + 1) + 1) (.inl (0, (40, .inl (fun _ => 0)))))).bind fun f11 =>
  (pV f11 this 9 7 (.ref (((((n + 1) + 1) + 1) + 1) + 1))).bind fun f12 =>
  (some (hup f12 ((((((n + 1) + 1) + 1) + 1) + 1) + 1) (.inl (0, (40, .inl (fun _ => 0)))))).bind fun f13 =>
  (pV f13 this 9 8 (.ref ((((((n + 1) + 1) + 1) + 1) + 1) + 1))).bind fun f14 =>
  (some (hup f14 (((((((n + 1) + 1) + 1) + 1) + 1) + 1) + 1) (.inl (2, (40, .inl (fun _ => 0)))))).bind fun f15 =>
  (pV f15 this 9 9 (.ref (((((((n + 1) + 1) + 1) + 1) + 1) + 1) + 1))).bind fun f16 =>
  (some (hup f16 ((((((((n + 1) + 1) + 1) + 1) + 1) + 1) + 1) + 1) (.inl (0, (1200, .inl (fun _ => 0)))))).bind fun f17 =>
  (pV f17 this 9 10 (.ref ((((((((n + 1) + 1) + 1) + 1) + 1) + 1) + 1) + 1))).bind fun f18 =>
  (some (hup f18 (((((((((n + 1) + 1) + 1) + 1) + 1) + 1) + 1) + 1) + 1) (.inl (0, (40, .inl (fun _ => 0)))))).bind fun f19 =>
  (pV f19 this 9 11 (.ref (((((((((n + 1) + 1) + 1) + 1) + 1) + 1) + 1) + 1) + 1))).bind fun f20 =>
  (some (hup f20 ((((((((((n + 1) + 1) + 1) + 1) + 1) + 1) + 1) + 1) + 1) + 1) (.inl (0, (40, .inl (fun _ => 0)))))).bind fun f21 =>
  (pV f21 this 9 12 (.ref ((((((((((n + 1) + 1) + 1) + 1) + 1) + 1) + 1) + 1) + 1) + 1))).bind fun f22 =>
  (some (hup f22 (((((((((((n + 1) + 1) + 1) + 1) + 1) + 1) + 1) + 1) + 1) + 1) + 1) (.inl (0, (480, .inl (fun _ => 0)))))).bind fun f23 =>
  (pV f23 this 9 13 (.ref (((((((((((n + 1) + 1) + 1) + 1) + 1) + 1) + 1) + 1) + 1) + 1) + 1))).bind fun f24 =>
  (some (hup f24 ((((((((((((n + 1) + 1) + 1) + 1) + 1) + 1) + 1) + 1) + 1) + 1) + 1) + 1) (.inl (0, (40, .inl (fun _ => 0)))))).bind fun f25 =>
  (pV f25 this 9 14 (.ref ((((((((((((n + 1) + 1) + 1) + 1) + 1) + 1) + 1) + 1) + 1) + 1) + 1) + 1))).bind fun f26 =>
  (some (hup f26 (((((((((((((n + 1) + 1) + 1) + 1) + 1) + 1) + 1) + 1) + 1) + 1) + 1) + 1) + 1) (.inl (0, (200, .inl (fun _ => 0)))))).bind fun f27 =>
  (pV f27 this 9 15 (.ref (((((((((((((n + 1) + 1) + 1) + 1) + 1) + 1) + 1) + 1) + 1) + 1) + 1) + 1) + 1))).bind fun f28 =>
  (some (hup f28 ((((((((((((((n + 1) + 1) + 1) + 1) + 1) + 1) + 1) + 1) + 1) + 1) + 1) + 1) + 1) + 1) (.inl (1, (40, .inr (.inl (fun _ => 0))))))).bind fun f29 =>
  (pV f29 this 9 16 (.ref ((((((((((((((n + 1) + 1) + 1) + 1) + 1) + 1) + 1) + 1) + 1) + 1) + 1) + 1) + 1) + 1))).bind fun f30 =>
  (some (hup f30 (((((((((((((((n + 1) + 1) + 1) + 1) + 1) + 1) + 1) + 1) + 1) + 1) + 1) + 1) + 1) + 1) + 1) (.inl (1, (40, .inr (.inl (fun _ => 0))))))).bind fun f31 =>
  (pV f31 this 9 17 (.ref (((((((((((((((n + 1) + 1) + 1) + 1) + 1) + 1) + 1) + 1) + 1) + 1) + 1) + 1) + 1) + 1) + 1))).bind fun f32 =>
  (some (hup f32 ((((((((((((((((n + 1) + 1) + 1) + 1) + 1) + 1) + 1) + 1) + 1) + 1) + 1) + 1) + 1) + 1) + 1) + 1) (.inl (0, (40, .inl (fun _ => 0)))))).bind fun f33 =>
  (pV f33 this 9 18 (.ref ((((((((((((((((n + 1) + 1) + 1) + 1) + 1) + 1) + 1) + 1) + 1) + 1) + 1) + 1) + 1) + 1) + 1) + 1))).bind fun f34 =>
  (some (hup f34 (((((((((((((((((n + 1) + 1) + 1) + 1) + 1) + 1) + 1) + 1) + 1) + 1) + 1) + 1) + 1) + 1) + 1) + 1) + 1) (.inl (0, (40, .inl (fun _ => 0)))))).bind fun f35 =>
  (pV f35 this 9 19 (.ref (((((((((((((((((n + 1) + 1) + 1) + 1) + 1) + 1) + 1) + 1) + 1) + 1) + 1) + 1) + 1) + 1) + 1) + 1) + 1))).bind fun f36 =>
  (some (hup f36 ((((((((((((((((((n + 1) + 1) + 1) + 1) + 1) + 1) + 1) + 1) + 1) + 1) + 1) + 1) + 1) + 1) + 1) + 1) + 1) + 1) (.inl (0, (40, .inl (fun _ => 0)))))).bind fun f37 =>
  (pV f37 this 9 20 (.ref ((((((((((((((((((n + 1) + 1) + 1) + 1) + 1) + 1) + 1) + 1) + 1) + 1) + 1) + 1) + 1) + 1) + 1) + 1) + 1) + 1))).bind fun f38 =>
  (some (hup f38 (((((((((((((((((((n + 1) + 1) + 1) + 1) + 1) + 1) + 1) + 1) + 1) + 1) + 1) + 1) + 1) + 1) + 1) + 1) + 1) + 1) + 1) (.inl (2, (40, .inl (fun _ => 0)))))).bind fun f39 =>
  (pV f39 this 9 21 (.ref (((((((((((((((((((n + 1) + 1) + 1) + 1) + 1) + 1) + 1) + 1) + 1) + 1) + 1) + 1) + 1) + 1) + 1) + 1) + 1) + 1) + 1))).bind fun f40 =>
  (some (hup f40 ((((((((((((((((((((n + 1) + 1) + 1) + 1) + 1) + 1) + 1) + 1) + 1) + 1) + 1) + 1) + 1) + 1) + 1) + 1) + 1) + 1) + 1) + 1) (.inl (2, (40, .inl (fun _ => 0)))))).bind fun f41 =>
  (pV f41 this 9 22 (.ref ((((((((((((((((((((n + 1) + 1) + 1) + 1) + 1) + 1) + 1) + 1) + 1) + 1) + 1) + 1) + 1) + 1) + 1) + 1) + 1) + 1) + 1) + 1))).bind fun f42 =>
  (some (hup f42 (((((((((((((((((((((n + 1) + 1) + 1) + 1) + 1) + 1) + 1) + 1) + 1) + 1) + 1) + 1) + 1) + 1) + 1) + 1) + 1) + 1) + 1) + 1) + 1) (.inl (2, (1600, .inl (fun _ => 0)))))).bind fun f43 =>
  (pV f43 this 9 23 (.ref (((((((((((((((((((((n + 1) + 1) + 1) + 1) + 1) + 1) + 1) + 1) + 1) + 1) + 1) + 1) + 1) + 1) + 1) + 1) + 1) + 1) + 1) + 1) + 1))).bind fun f44 =>
  (some (hup f44 ((((((((((((((((((((((n + 1) + 1) + 1) + 1) + 1) + 1) + 1) + 1) + 1) + 1) + 1) + 1) + 1) + 1) + 1) + 1) + 1) + 1) + 1) + 1) + 1) + 1) (.inl (2, (40, .inl (fun _ => 0)))))).bind fun f45 =>
  (pV f45 this 9 24 (.ref ((((((((((((((((((((((n + 1) + 1) + 1) + 1) + 1) + 1) + 1) + 1) + 1) + 1) + 1) + 1) + 1) + 1) + 1) + 1) + 1) + 1) + 1) + 1) + 1) + 1))).bind fun f46 =>
  (some (hup f46 (((((((((((((((((((((((n + 1) + 1) + 1) + 1) + 1) + 1) + 1) + 1) + 1) + 1) + 1) + 1) + 1) + 1) + 1) + 1) + 1) + 1) + 1) + 1) + 1) + 1) + 1) (.inl (0, (40, .inl (fun _ => 0)))))).bind fun f47 =>
  (pV f47 this 9 25 (.ref (((((((((((((((((((((((n + 1) + 1) + 1) + 1) + 1) + 1) + 1) + 1) + 1) + 1) + 1) + 1) + 1) + 1) + 1) + 1) + 1) + 1) + 1) + 1) + 1) + 1) + 1))).bind fun f48 =>
  (some (hup f48 ((((((((((((((((((((((((n + 1) + 1) + 1) + 1) + 1) + 1) + 1) + 1) + 1) + 1) + 1) + 1) + 1) + 1) + 1) + 1) + 1) + 1) + 1) + 1) + 1) + 1) + 1) + 1) (.inl (0, (64, .inl (fun _ => 0)))))).bind fun f49 =>
  (pV f49 this 9 27 (.ref ((((((((((((((((((((((((n + 1) + 1) + 1) + 1) + 1) + 1) + 1) + 1) + 1) + 1) + 1) + 1) + 1) + 1) + 1) + 1) + 1) + 1) + 1) + 1) + 1) + 1) + 1) + 1))).bind fun f50 =>
  (some (hup f50 (((((((((((((((((((((((((n + 1) + 1) + 1) + 1) + 1) + 1) + 1) + 1) + 1) + 1) + 1) + 1) + 1) + 1) + 1) + 1) + 1) + 1) + 1) + 1) + 1) + 1) + 1) + 1) + 1) (.inl (0, (160, .inl (fun _ => 0)))))).bind fun f51 =>
  (pV f51 this 9 29 (.ref (((((((((((((((((((((((((n + 1) + 1) + 1) + 1) + 1) + 1) + 1) + 1) + 1) + 1) + 1) + 1) + 1) + 1) + 1) + 1) + 1) + 1) + 1) + 1) + 1) + 1) + 1) + 1) + 1))).bind fun f52 =>
  (some (hup f52 ((((((((((((((((((((((((((n + 1) + 1) + 1) + 1) + 1) + 1) + 1) + 1) + 1) + 1) + 1) + 1) + 1) + 1) + 1) + 1) + 1) + 1) + 1) + 1) + 1) + 1) + 1) + 1) + 1) + 1) (.inl (0, (160, .inl (fun _ => 0)))))).bind fun f53 =>
  (pV f53 this 9 31 (.ref ((((((((((((((((((((((((((n + 1) + 1) + 1) + 1) + 1) + 1) + 1) + 1) + 1) + 1) + 1) + 1) + 1) + 1) + 1) + 1) + 1) + 1) + 1) + 1) + 1) + 1) + 1) + 1) + 1) + 1))).bind fun f54 =>
  (some (hup f54 (((((((((((((((((((((((((((n + 1) + 1) + 1) + 1) + 1) + 1) + 1) + 1) + 1) + 1) + 1) + 1) + 1) + 1) + 1) + 1) + 1) + 1) + 1) + 1) + 1) + 1) + 1) + 1) + 1) + 1) + 1) (.inl (0, (2000, .inl (fun _ => 0)))))).bind fun f55 =>
  (pV f55 this 9 32 (.ref (((((((((((((((((((((((((((n + 1) + 1) + 1) + 1) + 1) + 1) + 1) + 1) + 1) + 1) + 1) + 1) + 1) + 1) + 1) + 1) + 1) + 1) + 1) + 1) + 1) + 1) + 1) + 1) + 1) + 1) + 1))).bind fun f56 =>
  (some (hup f56 ((((((((((((((((((((((((((((n + 1) + 1) + 1) + 1) + 1) + 1) + 1) + 1) + 1) + 1) + 1) + 1) + 1) + 1) + 1) + 1) + 1) + 1) + 1) + 1) + 1) + 1) + 1) + 1) + 1) + 1) + 1) + 1) (.inl (0, (8000, .inl (fun _ => 0)))))).bind fun f57 =>
  (pV f57 this 9 34 (.ref ((((((((((((((((((((((((((((n + 1) + 1) + 1) + 1) + 1) + 1) + 1) + 1) + 1) + 1) + 1) + 1) + 1) + 1) + 1) + 1) + 1) + 1) + 1) + 1) + 1) + 1) + 1) + 1) + 1) + 1) + 1) + 1))).bind fun f58 =>
  (some (hup f58 (((((((((((((((((((((((((((((n + 1) + 1) + 1) + 1) + 1) + 1) + 1) + 1) + 1) + 1) + 1) + 1) + 1) + 1) + 1) + 1) + 1) + 1) + 1) + 1) + 1) + 1) + 1) + 1) + 1) + 1) + 1) + 1) + 1) (.inl (0, (3000, .inl (fun _ => 0)))))).bind fun f59 =>
  (pV f59 this 9 36 (.ref (((((((((((((((((((((((((((((n + 1) + 1) + 1) + 1) + 1) + 1) + 1) + 1) + 1) + 1) + 1) + 1) + 1) + 1) + 1) + 1) + 1) + 1) + 1) + 1) + 1) + 1) + 1) + 1) + 1) + 1) + 1) + 1) + 1))).bind fun f60 =>
  some (f60, ((((((((((((((((((((((((((((((n + 1) + 1) + 1) + 1) + 1) + 1) + 1) + 1) + 1) + 1) + 1) + 1) + 1) + 1) + 1) + 1) + 1) + 1) + 1) + 1) + 1) + 1) + 1) + 1) + 1) + 1) + 1) + 1) + 1) + 1))

set_option maxRecDepth 20000 in
theorem tX10_init {l : Launch} {g : GT} (N : Nat) (this : Nat) (f : HF) (n : Nat) {r : HF × Nat} (h : DX10_init N this f n = some r) : Mt l g yX10_init cX10_init 1 (Option.none : Option Jvm.ClassFile.FieldType) 1 [.ref this] f (some n) (.inl none, r.1, some r.2, 30, 17664) := by
  unfold DX10_init at h
  refine mt_of (by decide) (Nat.le_of_ble_eq_true rfl) (?_ : V l g (fun _ => True) (RX10, cX10_init, 1, (Option.none : Option Jvm.ClassFile.FieldType), [], "<init>") 1 (.inl none, r.1, some r.2, 30, 17664) 0 [(0, .ref this)] [] f (some n) 0 0)
  refine v_aload_n dX10_init_0 rfl rfl ?_
  refine v_objInit dX10_init_1 oi_X10_1 (by decide) (Nat.le_of_ble_eq_true rfl) ?_
  refine v_aload_n dX10_init_4 rfl rfl ?_
  refine v_bipush (v := 40) dX10_init_5 (by decide) ?_
  obtain ⟨f1, hf1, h⟩ := ob_some h
  obtain rfl := Option.some.inj hf1
  refine v_newI (K := 40) dX10_init_7 ac_I (by decide) (by decide) (by decide) (Nat.le_of_ble_eq_true rfl) (Nat.le_of_ble_eq_true rfl) ?_
  obtain ⟨f2, hf2, h⟩ := ob_some h
  refine v_putF dX10_init_9 ff_X10_7 rfl rfl rfl hf2 ?_
  refine v_aload_n dX10_init_12 rfl rfl ?_
  refine v_bipush (v := 40) dX10_init_13 (by decide) ?_
  obtain ⟨f3, hf3, h⟩ := ob_some h
  obtain rfl := Option.some.inj hf3
  refine v_newI (K := 40) dX10_init_15 ac_I (by decide) (by decide) (by decide) (Nat.le_of_ble_eq_true rfl) (Nat.le_of_ble_eq_true rfl) ?_
  obtain ⟨f4, hf4, h⟩ := ob_some h
  refine v_putF dX10_init_17 ff_X10_13 rfl rfl rfl hf4 ?_
  refine v_aload_n dX10_init_20 rfl rfl ?_
  refine v_bipush (v := 40) dX10_init_21 (by decide) ?_
  obtain ⟨f5, hf5, h⟩ := ob_some h
  obtain rfl := Option.some.inj hf5
  refine v_newI (K := 40) dX10_init_23 ac_I (by decide) (by decide) (by decide) (Nat.le_of_ble_eq_true rfl) (Nat.le_of_ble_eq_true rfl) ?_
  obtain ⟨f6, hf6, h⟩ := ob_some h
  refine v_putF dX10_init_25 ff_X10_16 rfl rfl rfl hf6 ?_
  refine v_aload_n dX10_init_28 rfl rfl ?_
  refine v_bipush (v := 40) dX10_init_29 (by decide) ?_
  obtain ⟨f7, hf7, h⟩ := ob_some h
  obtain rfl := Option.some.inj hf7
  refine v_newI (K := 40) dX10_init_31 ac_I (by decide) (by decide) (by decide) (Nat.le_of_ble_eq_true rfl) (Nat.le_of_ble_eq_true rfl) ?_
  obtain ⟨f8, hf8, h⟩ := ob_some h
  refine v_putF dX10_init_33 ff_X10_19 rfl rfl rfl hf8 ?_
  refine v_aload_n dX10_init_36 rfl rfl ?_
  refine v_bipush (v := 40) dX10_init_37 (by decide) ?_
  obtain ⟨f9, hf9, h⟩ := ob_some h
  obtain rfl := Option.some.inj hf9
  refine v_newI (K := 40) dX10_init_39 ac_I (by decide) (by decide) (by decide) (Nat.le_of_ble_eq_true rfl) (Nat.le_of_ble_eq_true rfl) ?_
  obtain ⟨f10, hf10, h⟩ := ob_some h
  refine v_putF dX10_init_41 ff_X10_22 rfl rfl rfl hf10 ?_
  refine v_aload_n dX10_init_44 rfl rfl ?_
  refine v_bipush (v := 40) dX10_init_45 (by decide) ?_
  obtain ⟨f11, hf11, h⟩ := ob_some h
  obtain rfl := Option.some.inj hf11
  refine v_newI (K := 40) dX10_init_47 ac_I (by decide) (by decide) (by decide) (Nat.le_of_ble_eq_true rfl) (Nat.le_of_ble_eq_true rfl) ?_
  obtain ⟨f12, hf12, h⟩ := ob_some h
  refine v_putF dX10_init_49 ff_X10_25 rfl rfl rfl hf12 ?_
  refine v_aload_n dX10_init_52 rfl rfl ?_
  refine v_bipush (v := 40) dX10_init_53 (by decide) ?_
  obtain ⟨f13, hf13, h⟩ := ob_some h
  obtain rfl := Option.some.inj hf13
  refine v_newI (K := 40) dX10_init_55 ac_I (by decide) (by decide) (by decide) (Nat.le_of_ble_eq_true rfl) (Nat.le_of_ble_eq_true rfl) ?_
  obtain ⟨f14, hf14, h⟩ := ob_some h
  refine v_putF dX10_init_57 ff_X10_28 rfl rfl rfl hf14 ?_
  refine v_aload_n dX10_init_60 rfl rfl ?_
  refine v_bipush (v := 40) dX10_init_61 (by decide) ?_
  obtain ⟨f15, hf15, h⟩ := ob_some h
  obtain rfl := Option.some.inj hf15
  refine v_newZ (K := 40) dX10_init_63 ac_Z (by decide) (by decide) (by decide) (Nat.le_of_ble_eq_true rfl) (Nat.le_of_ble_eq_true rfl) ?_
  obtain ⟨f16, hf16, h⟩ := ob_some h
  refine v_putF dX10_init_65 ff_X10_31 rfl rfl rfl hf16 ?_
  refine v_aload_n dX10_init_68 rfl rfl ?_
  refine v_sipush (v := 1200) dX10_init_69 (by decide) ?_
  obtain ⟨f17, hf17, h⟩ := ob_some h
  obtain rfl := Option.some.inj hf17
  refine v_newI (K := 1200) dX10_init_72 ac_I (by decide) (by decide) (by decide) (Nat.le_of_ble_eq_true rfl) (Nat.le_of_ble_eq_true rfl) ?_
  obtain ⟨f18, hf18, h⟩ := ob_some h
  refine v_putF dX10_init_74 ff_X10_35 rfl rfl rfl hf18 ?_
  refine v_aload_n dX10_init_77 rfl rfl ?_
  refine v_bipush (v := 40) dX10_init_78 (by decide) ?_
  obtain ⟨f19, hf19, h⟩ := ob_some h
  obtain rfl := Option.some.inj hf19
  refine v_newI (K := 40) dX10_init_80 ac_I (by decide) (by decide) (by decide) (Nat.le_of_ble_eq_true rfl) (Nat.le_of_ble_eq_true rfl) ?_
  obtain ⟨f20, hf20, h⟩ := ob_some h
  refine v_putF dX10_init_82 ff_X10_38 rfl rfl rfl hf20 ?_
  refine v_aload_n dX10_init_85 rfl rfl ?_
  refine v_bipush (v := 40) dX10_init_86 (by decide) ?_
  obtain ⟨f21, hf21, h⟩ := ob_some h
  obtain rfl := Option.some.inj hf21
  refine v_newI (K := 40) dX10_init_88 ac_I (by decide) (by decide) (by decide) (Nat.le_of_ble_eq_true rfl) (Nat.le_of_ble_eq_true rfl) ?_
  obtain ⟨f22, hf22, h⟩ := ob_some h
  refine v_putF dX10_init_90 ff_X10_41 rfl rfl rfl hf22 ?_
  refine v_aload_n dX10_init_93 rfl rfl ?_
  refine v_sipush (v := 480) dX10_init_94 (by decide) ?_
  obtain ⟨f23, hf23, h⟩ := ob_some h
  obtain rfl := Option.some.inj hf23
  refine v_newI (K := 480) dX10_init_97 ac_I (by decide) (by decide) (by decide) (Nat.le_of_ble_eq_true rfl) (Nat.le_of_ble_eq_true rfl) ?_
  obtain ⟨f24, hf24, h⟩ := ob_some h
  refine v_putF dX10_init_99 ff_X10_44 rfl rfl rfl hf24 ?_
  refine v_aload_n dX10_init_102 rfl rfl ?_
  refine v_bipush (v := 40) dX10_init_103 (by decide) ?_
  obtain ⟨f25, hf25, h⟩ := ob_some h
  obtain rfl := Option.some.inj hf25
  refine v_newI (K := 40) dX10_init_105 ac_I (by decide) (by decide) (by decide) (Nat.le_of_ble_eq_true rfl) (Nat.le_of_ble_eq_true rfl) ?_
  obtain ⟨f26, hf26, h⟩ := ob_some h
  refine v_putF dX10_init_107 ff_X10_47 rfl rfl rfl hf26 ?_
  refine v_aload_n dX10_init_110 rfl rfl ?_
  refine v_sipush (v := 200) dX10_init_111 (by decide) ?_
  obtain ⟨f27, hf27, h⟩ := ob_some h
  obtain rfl := Option.some.inj hf27
  refine v_newI (K := 200) dX10_init_114 ac_I (by decide) (by decide) (by decide) (Nat.le_of_ble_eq_true rfl) (Nat.le_of_ble_eq_true rfl) ?_
  obtain ⟨f28, hf28, h⟩ := ob_some h
  refine v_putF dX10_init_116 ff_X10_50 rfl rfl rfl hf28 ?_
  refine v_aload_n dX10_init_119 rfl rfl ?_
  refine v_bipush (v := 40) dX10_init_120 (by decide) ?_
  obtain ⟨f29, hf29, h⟩ := ob_some h
  obtain rfl := Option.some.inj hf29
  refine v_newL (K := 40) dX10_init_122 ac_L (by decide) (by decide) (by decide) (Nat.le_of_ble_eq_true rfl) (Nat.le_of_ble_eq_true rfl) ?_
  obtain ⟨f30, hf30, h⟩ := ob_some h
  refine v_putF dX10_init_124 ff_X10_53 rfl rfl rfl hf30 ?_
  refine v_aload_n dX10_init_127 rfl rfl ?_
  refine v_bipush (v := 40) dX10_init_128 (by decide) ?_
  obtain ⟨f31, hf31, h⟩ := ob_some h
  obtain rfl := Option.some.inj hf31
  refine v_newL (K := 40) dX10_init_130 ac_L (by decide) (by decide) (by decide) (Nat.le_of_ble_eq_true rfl) (Nat.le_of_ble_eq_true rfl) ?_
  obtain ⟨f32, hf32, h⟩ := ob_some h
  refine v_putF dX10_init_132 ff_X10_57 rfl rfl rfl hf32 ?_
  refine v_aload_n dX10_init_135 rfl rfl ?_
  refine v_bipush (v := 40) dX10_init_136 (by decide) ?_
  obtain ⟨f33, hf33, h⟩ := ob_some h
  obtain rfl := Option.some.inj hf33
  refine v_newI (K := 40) dX10_init_138 ac_I (by decide) (by decide) (by decide) (Nat.le_of_ble_eq_true rfl) (Nat.le_of_ble_eq_true rfl) ?_
  obtain ⟨f34, hf34, h⟩ := ob_some h
  refine v_putF dX10_init_140 ff_X10_60 rfl rfl rfl hf34 ?_
  refine v_aload_n dX10_init_143 rfl rfl ?_
  refine v_bipush (v := 40) dX10_init_144 (by decide) ?_
  obtain ⟨f35, hf35, h⟩ := ob_some h
  obtain rfl := Option.some.inj hf35
  refine v_newI (K := 40) dX10_init_146 ac_I (by decide) (by decide) (by decide) (Nat.le_of_ble_eq_true rfl) (Nat.le_of_ble_eq_true rfl) ?_
  obtain ⟨f36, hf36, h⟩ := ob_some h
  refine v_putF dX10_init_148 ff_X10_63 rfl rfl rfl hf36 ?_
  refine v_aload_n dX10_init_151 rfl rfl ?_
  refine v_bipush (v := 40) dX10_init_152 (by decide) ?_
  obtain ⟨f37, hf37, h⟩ := ob_some h
  obtain rfl := Option.some.inj hf37
  refine v_newI (K := 40) dX10_init_154 ac_I (by decide) (by decide) (by decide) (Nat.le_of_ble_eq_true rfl) (Nat.le_of_ble_eq_true rfl) ?_
  obtain ⟨f38, hf38, h⟩ := ob_some h
  refine v_putF dX10_init_156 ff_X10_66 rfl rfl rfl hf38 ?_
  refine v_aload_n dX10_init_159 rfl rfl ?_
  refine v_bipush (v := 40) dX10_init_160 (by decide) ?_
  obtain ⟨f39, hf39, h⟩ := ob_some h
  obtain rfl := Option.some.inj hf39
  refine v_newZ (K := 40) dX10_init_162 ac_Z (by decide) (by decide) (by decide) (Nat.le_of_ble_eq_true rfl) (Nat.le_of_ble_eq_true rfl) ?_
  obtain ⟨f40, hf40, h⟩ := ob_some h
  refine v_putF dX10_init_164 ff_X10_69 rfl rfl rfl hf40 ?_
  refine v_aload_n dX10_init_167 rfl rfl ?_
  refine v_bipush (v := 40) dX10_init_168 (by decide) ?_
  obtain ⟨f41, hf41, h⟩ := ob_some h
  obtain rfl := Option.some.inj hf41
  refine v_newZ (K := 40) dX10_init_170 ac_Z (by decide) (by decide) (by decide) (Nat.le_of_ble_eq_true rfl) (Nat.le_of_ble_eq_true rfl) ?_
  obtain ⟨f42, hf42, h⟩ := ob_some h
  refine v_putF dX10_init_172 ff_X10_72 rfl rfl rfl hf42 ?_
  refine v_aload_n dX10_init_175 rfl rfl ?_
  refine v_sipush (v := 1600) dX10_init_176 (by decide) ?_
  obtain ⟨f43, hf43, h⟩ := ob_some h
  obtain rfl := Option.some.inj hf43
  refine v_newZ (K := 1600) dX10_init_179 ac_Z (by decide) (by decide) (by decide) (Nat.le_of_ble_eq_true rfl) (Nat.le_of_ble_eq_true rfl) ?_
  obtain ⟨f44, hf44, h⟩ := ob_some h
  refine v_putF dX10_init_181 ff_X10_75 rfl rfl rfl hf44 ?_
  refine v_aload_n dX10_init_184 rfl rfl ?_
  refine v_bipush (v := 40) dX10_init_185 (by decide) ?_
  obtain ⟨f45, hf45, h⟩ := ob_some h
  obtain rfl := Option.some.inj hf45
  refine v_newZ (K := 40) dX10_init_187 ac_Z (by decide) (by decide) (by decide) (Nat.le_of_ble_eq_true rfl) (Nat.le_of_ble_eq_true rfl) ?_
  obtain ⟨f46, hf46, h⟩ := ob_some h
  refine v_putF dX10_init_189 ff_X10_78 rfl rfl rfl hf46 ?_
  refine v_aload_n dX10_init_192 rfl rfl ?_
  refine v_bipush (v := 40) dX10_init_193 (by decide) ?_
  obtain ⟨f47, hf47, h⟩ := ob_some h
  obtain rfl := Option.some.inj hf47
  refine v_newI (K := 40) dX10_init_195 ac_I (by decide) (by decide) (by decide) (Nat.le_of_ble_eq_true rfl) (Nat.le_of_ble_eq_true rfl) ?_
  obtain ⟨f48, hf48, h⟩ := ob_some h
  refine v_putF dX10_init_197 ff_X10_81 rfl rfl rfl hf48 ?_
  refine v_aload_n dX10_init_200 rfl rfl ?_
  refine v_bipush (v := 64) dX10_init_201 (by decide) ?_
  obtain ⟨f49, hf49, h⟩ := ob_some h
  obtain rfl := Option.some.inj hf49
  refine v_newI (K := 64) dX10_init_203 ac_I (by decide) (by decide) (by decide) (Nat.le_of_ble_eq_true rfl) (Nat.le_of_ble_eq_true rfl) ?_
  obtain ⟨f50, hf50, h⟩ := ob_some h
  refine v_putF dX10_init_205 ff_X10_84 rfl rfl rfl hf50 ?_
  refine v_aload_n dX10_init_208 rfl rfl ?_
  refine v_sipush (v := 160) dX10_init_209 (by decide) ?_
  obtain ⟨f51, hf51, h⟩ := ob_some h
  obtain rfl := Option.some.inj hf51
  refine v_newI (K := 160) dX10_init_212 ac_I (by decide) (by decide) (by decide) (Nat.le_of_ble_eq_true rfl) (Nat.le_of_ble_eq_true rfl) ?_
  obtain ⟨f52, hf52, h⟩ := ob_some h
  refine v_putF dX10_init_214 ff_X10_87 rfl rfl rfl hf52 ?_
  refine v_aload_n dX10_init_217 rfl rfl ?_
  refine v_sipush (v := 160) dX10_init_218 (by decide) ?_
  obtain ⟨f53, hf53, h⟩ := ob_some h
  obtain rfl := Option.some.inj hf53
  refine v_newI (K := 160) dX10_init_221 ac_I (by decide) (by decide) (by decide) (Nat.le_of_ble_eq_true rfl) (Nat.le_of_ble_eq_true rfl) ?_
  obtain ⟨f54, hf54, h⟩ := ob_some h
  refine v_putF dX10_init_223 ff_X10_90 rfl rfl rfl hf54 ?_
  refine v_aload_n dX10_init_226 rfl rfl ?_
  refine v_sipush (v := 2000) dX10_init_227 (by decide) ?_
  obtain ⟨f55, hf55, h⟩ := ob_some h
  obtain rfl := Option.some.inj hf55
  refine v_newI (K := 2000) dX10_init_230 ac_I (by decide) (by decide) (by decide) (Nat.le_of_ble_eq_true rfl) (Nat.le_of_ble_eq_true rfl) ?_
  obtain ⟨f56, hf56, h⟩ := ob_some h
  refine v_putF dX10_init_232 ff_X10_93 rfl rfl rfl hf56 ?_
  refine v_aload_n dX10_init_235 rfl rfl ?_
  refine v_sipush (v := 8000) dX10_init_236 (by decide) ?_
  obtain ⟨f57, hf57, h⟩ := ob_some h
  obtain rfl := Option.some.inj hf57
  refine v_newI (K := 8000) dX10_init_239 ac_I (by decide) (by decide) (by decide) (Nat.le_of_ble_eq_true rfl) (Nat.le_of_ble_eq_true rfl) ?_
  obtain ⟨f58, hf58, h⟩ := ob_some h
  refine v_putF dX10_init_241 ff_X10_96 rfl rfl rfl hf58 ?_
  refine v_aload_n dX10_init_244 rfl rfl ?_
  refine v_sipush (v := 3000) dX10_init_245 (by decide) ?_
  obtain ⟨f59, hf59, h⟩ := ob_some h
  obtain rfl := Option.some.inj hf59
  refine v_newI (K := 3000) dX10_init_248 ac_I (by decide) (by decide) (by decide) (Nat.le_of_ble_eq_true rfl) (Nat.le_of_ble_eq_true rfl) ?_
  obtain ⟨f60, hf60, h⟩ := ob_some h
  refine v_putF dX10_init_250 ff_X10_99 rfl rfl rfl hf60 ?_
  obtain rfl := Option.some.inj h
  exact v_vretW dX10_init_253 rfl rfl (by omega) (by omega)

