/-! X0 product (R) -/
def DX0_product_30 (N : Nat) (f : HF)  (v0 : Int64) (v2 : Int64) : Option Int64 :=
    some ((v0 * v2) / (1000 : Int64))

def DX0_product (N : Nat) (p0 : Int64) (p1 : Int64) (f : HF) : Option Int64 :=
  if p1 = (0 : Int64) then
    DX0_product_30 N f p0 p1
  else
    if ¬ (abL p1) = 0 then
    if (abL p0) ≤ ((999999999999999 : Int64) / (abL p1)) then
      DX0_product_30 N f p0 p1
    else
      some (-9223372036854775808 : Int64)
    else none

set_option maxRecDepth 20000 in
theorem tX0_product_30 {l : Launch} {g : GT} {sz : Option Nat} (N : Nat) (f : HF)  {r : Int64} : ∀ (v0 : Int64) (v2 : Int64), DX0_product_30 N f v0 v2 = some r → V l g (fun _ => True) (RX0, cX0_product, 6, (Option.some Jvm.ClassFile.FieldType.long), [], "product") 1 (roL (.inl r) f sz) 30 [(0, .long v0), (2, .long v2)] [] f sz 0 0 := by
  intro v0 v2 h
  unfold DX0_product_30 at h
  refine v_lload_n dX0_product_30 rfl rfl ?_
  refine v_lload_n dX0_product_31 rfl rfl ?_
  refine v_lmul dX0_product_32 ?_
  refine v_ldc2 dX0_product_33 kc_X0_39 ?_
  refine v_ldiv dX0_product_36 (by decide) ?_
  obtain rfl := Option.some.inj h
  exact v_lret dX0_product_37 rfl rfl

set_option maxRecDepth 20000 in
theorem tX0_product {l : Launch} {g : GT} {sz : Option Nat} (N : Nat) (p0 : Int64) (p1 : Int64) (f : HF) {r : Int64} (h : DX0_product N p0 p1 f = some r) : Mt l g yX0_product cX0_product 6 (Option.some Jvm.ClassFile.FieldType.long) 1 [.long p0, .long p1] f sz (roL (.inl r) f sz) := by
  unfold DX0_product at h
  refine mt_of (by decide) (Nat.le_of_ble_eq_true rfl) (?_ : V l g (fun _ => True) (RX0, cX0_product, 6, (Option.some Jvm.ClassFile.FieldType.long), [], "product") 1 (roL (.inl r) f sz) 0 [(0, .long p0), (2, .long p1)] [] f sz 0 0)
  refine v_ldc2 dX0_product_0 kc_X0_86 ?_
  refine v_lstore (ls1 := [(4, .long (999999999999999 : Int64)), (0, .long p0), (2, .long p1)]) dX0_product_3 (by decide) rfl ?_
  refine v_lload_n dX0_product_5 rfl rfl ?_
  refine v_lconst (v := 0) dX0_product_6 (by decide) ?_
  refine v_lcmp_eq (tgt := 30) dX0_product_7 dX0_product_8 (by decide) (fun c2 => ?_) (fun c2 => ?_)
  · replace h := ip_ c2 h
    exact v_sub (vs_c rfl (vs_c rfl vs_n)) (tX0_product_30 N f p0 p1 h)
  · replace h := in_ c2 h
    refine v_lload_n dX0_product_11 rfl rfl ?_
    refine v_mabsL dX0_product_12 ml_X0_52 ok_J9_abs_067f4 (by decide) (Nat.le_of_ble_eq_true rfl) ?_
    refine v_lload dX0_product_15 rfl ?_
    refine v_lload_n dX0_product_17 rfl rfl ?_
    refine v_mabsL dX0_product_18 ml_X0_52 ok_J9_abs_067f4 (by decide) (Nat.le_of_ble_eq_true rfl) ?_
    obtain ⟨hz, h⟩ := if_some h
    refine v_ldiv dX0_product_21 hz ?_
    refine v_lcmp_le (tgt := 30) dX0_product_22 dX0_product_23 (by decide) (fun c1 => ?_) (fun c1 => ?_)
    · replace h := ip_ c1 h
      exact v_sub (vs_c rfl (vs_c rfl vs_n)) (tX0_product_30 N f p0 p1 h)
    · replace h := in_ c1 h
      refine v_ldc2 dX0_product_26 kc_X0_33 ?_
      obtain rfl := Option.some.inj h
      exact v_lret dX0_product_29 rfl rfl

/-! X0 combine (R) -/
def DX0_combine (N : Nat) (p0 : Int32) (p1 : Int64) (p2 : Int64) (f : HF) : Option Int64 :=
  if p0 = 0 then
    some (p1 + p2)
  else
  if p0 = 1 then
    some (p1 - p2)
  else
  if p0 = 2 then
    (DX0_product N p1 p2 f).bind fun x4 =>
    some x4
  else
  if p0 = 3 then
    if p2 = (0 : Int64) then
      some (-9223372036854775808 : Int64)
    else
      if ¬ p2 = 0 then
      some ((p1 * (1000 : Int64)) / p2)
      else none
  else
  if p0 = 4 then
    some (mnL p1 p2)
  else
  if p0 = 5 then
    some (mxL p1 p2)
  else
  some (-9223372036854775808 : Int64)

set_option maxRecDepth 20000 in
theorem tX0_combine {l : Launch} {g : GT} {sz : Option Nat} (N : Nat) (p0 : Int32) (p1 : Int64) (p2 : Int64) (f : HF) {r : Int64} (h : DX0_combine N p0 p1 p2 f = some r) : Mt l g yX0_combine cX0_combine 5 (Option.some Jvm.ClassFile.FieldType.long) 2 [.int p0, .long p1, .long p2] f sz (roL (.inl r) f sz) := by
  unfold DX0_combine at h
  refine mt_of (by decide) (Nat.le_of_ble_eq_true rfl) (?_ : V l g (fun _ => True) (RX0, cX0_combine, 5, (Option.some Jvm.ClassFile.FieldType.long), [], "combine") 2 (roL (.inl r) f sz) 0 [(0, .int p0), (1, .long p1), (3, .long p2)] [] f sz 0 0)
  refine v_iload_n dX0_combine_0 rfl rfl ?_
  by_cases c1 : p0 = 0
  · replace h := ip_ c1 h
    refine v_tableIn (tgt := 40) (off := 39) dX0_combine_1 (by rw [c1] <;> decide) (by rw [c1] <;> decide) (by rw [c1] <;> rfl) (by decide) ?_
    refine v_lload_n dX0_combine_40 rfl rfl ?_
    refine v_lload_n dX0_combine_41 rfl rfl ?_
    refine v_ladd dX0_combine_42 ?_
    obtain rfl := Option.some.inj h
    exact v_lret dX0_combine_43 rfl rfl
  replace h := in_ c1 h
  by_cases c2 : p0 = 1
  · replace h := ip_ c2 h
    refine v_tableIn (tgt := 44) (off := 43) dX0_combine_1 (by rw [c2] <;> decide) (by rw [c2] <;> decide) (by rw [c2] <;> rfl) (by decide) ?_
    refine v_lload_n dX0_combine_44 rfl rfl ?_
    refine v_lload_n dX0_combine_45 rfl rfl ?_
    refine v_lsub dX0_combine_46 ?_
    obtain rfl := Option.some.inj h
    exact v_lret dX0_combine_47 rfl rfl
  replace h := in_ c2 h
  by_cases c3 : p0 = 2
  · replace h := ip_ c3 h
    refine v_tableIn (tgt := 48) (off := 47) dX0_combine_1 (by rw [c3] <;> decide) (by rw [c3] <;> decide) (by rw [c3] <;> rfl) (by decide) ?_
    refine v_lload_n dX0_combine_48 rfl rfl ?_
    refine v_lload_n dX0_combine_49 rfl rfl ?_
    obtain ⟨x4, hx5, h⟩ := ob_some h
    have ehx5 := tX0_product (l := l) (g := g) (sz := sz) N p1 p2 f hx5
    refine v_cSL dX0_combine_50 ml_X0_76 ok_X0_product ehx5 (by decide) rfl (rest := []) rfl (Nat.le_of_ble_eq_true rfl) ?_
    obtain rfl := Option.some.inj h
    exact v_lret dX0_combine_53 rfl rfl
  replace h := in_ c3 h
  by_cases c6 : p0 = 3
  · replace h := ip_ c6 h
    refine v_tableIn (tgt := 54) (off := 53) dX0_combine_1 (by rw [c6] <;> decide) (by rw [c6] <;> decide) (by rw [c6] <;> rfl) (by decide) ?_
    refine v_lload_n dX0_combine_54 rfl rfl ?_
    refine v_lconst (v := 0) dX0_combine_55 (by decide) ?_
    refine v_lcmp_ne (tgt := 66) dX0_combine_56 dX0_combine_57 (by decide) (fun c7 => ?_) (fun c7 => ?_)
    · replace h := in_ c7 h
      refine v_lload_n dX0_combine_66 rfl rfl ?_
      refine v_ldc2 dX0_combine_67 kc_X0_39 ?_
      refine v_lmul dX0_combine_70 ?_
      refine v_lload_n dX0_combine_71 rfl rfl ?_
      obtain ⟨hz, h⟩ := if_some h
      refine v_ldiv dX0_combine_72 hz ?_
      obtain rfl := Option.some.inj h
      exact v_lret dX0_combine_73 rfl rfl
    · replace h := ip_ c7 h
      refine v_ldc2 dX0_combine_60 kc_X0_33 ?_
      refine v_goto (tgt := 73) dX0_combine_63 (by decide) ?_
      obtain rfl := Option.some.inj h
      exact v_lret dX0_combine_73 rfl rfl
  replace h := in_ c6 h
  by_cases c8 : p0 = 4
  · replace h := ip_ c8 h
    refine v_tableIn (tgt := 74) (off := 73) dX0_combine_1 (by rw [c8] <;> decide) (by rw [c8] <;> decide) (by rw [c8] <;> rfl) (by decide) ?_
    refine v_lload_n dX0_combine_74 rfl rfl ?_
    refine v_lload_n dX0_combine_75 rfl rfl ?_
    refine v_mminL dX0_combine_76 ml_X0_80 ok_J9_min_f86c9 (by decide) (Nat.le_of_ble_eq_true rfl) ?_
    obtain rfl := Option.some.inj h
    exact v_lret dX0_combine_79 rfl rfl
  replace h := in_ c8 h
  by_cases c9 : p0 = 5
  · replace h := ip_ c9 h
    refine v_tableIn (tgt := 80) (off := 79) dX0_combine_1 (by rw [c9] <;> decide) (by rw [c9] <;> decide) (by rw [c9] <;> rfl) (by decide) ?_
    refine v_lload_n dX0_combine_80 rfl rfl ?_
    refine v_lload_n dX0_combine_81 rfl rfl ?_
    refine v_mmaxL dX0_combine_82 ml_X0_83 ok_J9_max_f86c9 (by decide) (Nat.le_of_ble_eq_true rfl) ?_
    obtain rfl := Option.some.inj h
    exact v_lret dX0_combine_85 rfl rfl
  replace h := in_ c9 h
  refine v_tableOut (tgt := 86) dX0_combine_1 (tsw_out p0 0 5 (fun z z1 z2 => by
    rcases (show z = 0 ∨ z = 1 ∨ z = 2 ∨ z = 3 ∨ z = 4 ∨ z = 5 by omega) with rfl | rfl | rfl | rfl | rfl | rfl
    · exact c1
    · exact c2
    · exact c3
    · exact c6
    · exact c8
    · exact c9
    )) (by decide) ?_
  refine v_ldc2 dX0_combine_86 kc_X0_33 ?_
  obtain rfl := Option.some.inj h
  exact v_lret dX0_combine_89 rfl rfl

