/-! J9 abs (R) -/
def DJ9_abs_0f7a4 (N : Nat) (p0 : Int32) (f : HF) : Option Int32 :=
  if 0 ≤ p0 then
    some p0
  else
    some (-p0)

theorem tJ9_abs_0f7a4 {l : Launch} {g : GT} {sz : Option Nat} (N : Nat) (p0 : Int32) (f : HF) {r : Int32} (h : DJ9_abs_0f7a4 N p0 f = some r) : Mt l g yJ9_abs_0f7a4 cJ9_abs_0f7a4 1 (Option.some Jvm.ClassFile.FieldType.int) 0 [.int p0] f sz (roI (.inl r) f sz) := by
  unfold DJ9_abs_0f7a4 at h
  refine mt_of (by decide) (by decide) (?_ : V l g (fun _ => True) (RJ9, cJ9_abs_0f7a4, 1, (Option.some Jvm.ClassFile.FieldType.int), [], "abs") 0 (roI (.inl r) f sz) 0 [(0, .int p0)] [] f sz 0 0)
  refine v_iload_n dJ9_abs_0f7a4_0 rfl rfl ?_
  refine v_if_ge (tgt := 9) dJ9_abs_0f7a4_1 (by decide) (fun c1 => ?_) (fun c1 => ?_)
  · replace h := ip_ c1 h
    refine v_iload_n dJ9_abs_0f7a4_9 rfl rfl ?_
    cases h
    exact v_iret dJ9_abs_0f7a4_10 rfl rfl
  · replace h := in_ c1 h
    refine v_iload_n dJ9_abs_0f7a4_4 rfl rfl ?_
    refine v_ineg dJ9_abs_0f7a4_5 ?_
    refine v_goto (tgt := 10) dJ9_abs_0f7a4_6 (by decide) ?_
    cases h
    exact v_iret dJ9_abs_0f7a4_10 rfl rfl

/-! J9 abs (R) -/
def DJ9_abs_067f4 (N : Nat) (p0 : Int64) (f : HF) : Option Int64 :=
  if (0 : Int64) ≤ p0 then
    some p0
  else
    some (-p0)

theorem tJ9_abs_067f4 {l : Launch} {g : GT} {sz : Option Nat} (N : Nat) (p0 : Int64) (f : HF) {r : Int64} (h : DJ9_abs_067f4 N p0 f = some r) : Mt l g yJ9_abs_067f4 cJ9_abs_067f4 2 (Option.some Jvm.ClassFile.FieldType.long) 0 [.long p0] f sz (roL (.inl r) f sz) := by
  unfold DJ9_abs_067f4 at h
  refine mt_of (by decide) (by decide) (?_ : V l g (fun _ => True) (RJ9, cJ9_abs_067f4, 2, (Option.some Jvm.ClassFile.FieldType.long), [], "abs") 0 (roL (.inl r) f sz) 0 [(0, .long p0)] [] f sz 0 0)
  refine v_lload_n dJ9_abs_067f4_0 rfl rfl ?_
  refine v_lconst (v := 0) dJ9_abs_067f4_1 (by decide) ?_
  refine v_lcmp_ge (tgt := 11) dJ9_abs_067f4_2 dJ9_abs_067f4_3 (by decide) (fun c1 => ?_) (fun c1 => ?_)
  · replace h := ip_ c1 h
    refine v_lload_n dJ9_abs_067f4_11 rfl rfl ?_
    cases h
    exact v_lret dJ9_abs_067f4_12 rfl rfl
  · replace h := in_ c1 h
    refine v_lload_n dJ9_abs_067f4_6 rfl rfl ?_
    refine v_lneg dJ9_abs_067f4_7 ?_
    refine v_goto (tgt := 12) dJ9_abs_067f4_8 (by decide) ?_
    cases h
    exact v_lret dJ9_abs_067f4_12 rfl rfl

/-! J9 max (R) -/
def DJ9_max_7cf53 (N : Nat) (p0 : Int32) (p1 : Int32) (f : HF) : Option Int32 :=
  if p0 < p1 then
    some p1
  else
    some p0

theorem tJ9_max_7cf53 {l : Launch} {g : GT} {sz : Option Nat} (N : Nat) (p0 : Int32) (p1 : Int32) (f : HF) {r : Int32} (h : DJ9_max_7cf53 N p0 p1 f = some r) : Mt l g yJ9_max_7cf53 cJ9_max_7cf53 2 (Option.some Jvm.ClassFile.FieldType.int) 0 [.int p0, .int p1] f sz (roI (.inl r) f sz) := by
  unfold DJ9_max_7cf53 at h
  refine mt_of (by decide) (by decide) (?_ : V l g (fun _ => True) (RJ9, cJ9_max_7cf53, 2, (Option.some Jvm.ClassFile.FieldType.int), [], "max") 0 (roI (.inl r) f sz) 0 [(0, .int p0), (1, .int p1)] [] f sz 0 0)
  refine v_iload_n dJ9_max_7cf53_0 rfl rfl ?_
  refine v_iload_n dJ9_max_7cf53_1 rfl rfl ?_
  refine v_icmp_lt (tgt := 9) dJ9_max_7cf53_2 (by decide) (fun c1 => ?_) (fun c1 => ?_)
  · replace h := ip_ c1 h
    refine v_iload_n dJ9_max_7cf53_9 rfl rfl ?_
    cases h
    exact v_iret dJ9_max_7cf53_10 rfl rfl
  · replace h := in_ c1 h
    refine v_iload_n dJ9_max_7cf53_5 rfl rfl ?_
    refine v_goto (tgt := 10) dJ9_max_7cf53_6 (by decide) ?_
    cases h
    exact v_iret dJ9_max_7cf53_10 rfl rfl

/-! J9 max (R) -/
def DJ9_max_f86c9 (N : Nat) (p0 : Int64) (p1 : Int64) (f : HF) : Option Int64 :=
  if p0 < p1 then
    some p1
  else
    some p0

theorem tJ9_max_f86c9 {l : Launch} {g : GT} {sz : Option Nat} (N : Nat) (p0 : Int64) (p1 : Int64) (f : HF) {r : Int64} (h : DJ9_max_f86c9 N p0 p1 f = some r) : Mt l g yJ9_max_f86c9 cJ9_max_f86c9 4 (Option.some Jvm.ClassFile.FieldType.long) 0 [.long p0, .long p1] f sz (roL (.inl r) f sz) := by
  unfold DJ9_max_f86c9 at h
  refine mt_of (by decide) (by decide) (?_ : V l g (fun _ => True) (RJ9, cJ9_max_f86c9, 4, (Option.some Jvm.ClassFile.FieldType.long), [], "max") 0 (roL (.inl r) f sz) 0 [(0, .long p0), (2, .long p1)] [] f sz 0 0)
  refine v_lload_n dJ9_max_f86c9_0 rfl rfl ?_
  refine v_lload_n dJ9_max_f86c9_1 rfl rfl ?_
  refine v_lcmp_lt (tgt := 10) dJ9_max_f86c9_2 dJ9_max_f86c9_3 (by decide) (fun c1 => ?_) (fun c1 => ?_)
  · replace h := ip_ c1 h
    refine v_lload_n dJ9_max_f86c9_10 rfl rfl ?_
    cases h
    exact v_lret dJ9_max_f86c9_11 rfl rfl
  · replace h := in_ c1 h
    refine v_lload_n dJ9_max_f86c9_6 rfl rfl ?_
    refine v_goto (tgt := 11) dJ9_max_f86c9_7 (by decide) ?_
    cases h
    exact v_lret dJ9_max_f86c9_11 rfl rfl

/-! J9 min (R) -/
def DJ9_min_7cf53 (N : Nat) (p0 : Int32) (p1 : Int32) (f : HF) : Option Int32 :=
  if p1 < p0 then
    some p1
  else
    some p0

theorem tJ9_min_7cf53 {l : Launch} {g : GT} {sz : Option Nat} (N : Nat) (p0 : Int32) (p1 : Int32) (f : HF) {r : Int32} (h : DJ9_min_7cf53 N p0 p1 f = some r) : Mt l g yJ9_min_7cf53 cJ9_min_7cf53 2 (Option.some Jvm.ClassFile.FieldType.int) 0 [.int p0, .int p1] f sz (roI (.inl r) f sz) := by
  unfold DJ9_min_7cf53 at h
  refine mt_of (by decide) (by decide) (?_ : V l g (fun _ => True) (RJ9, cJ9_min_7cf53, 2, (Option.some Jvm.ClassFile.FieldType.int), [], "min") 0 (roI (.inl r) f sz) 0 [(0, .int p0), (1, .int p1)] [] f sz 0 0)
  refine v_iload_n dJ9_min_7cf53_0 rfl rfl ?_
  refine v_iload_n dJ9_min_7cf53_1 rfl rfl ?_
  refine v_icmp_gt (tgt := 9) dJ9_min_7cf53_2 (by decide) (fun c1 => ?_) (fun c1 => ?_)
  · replace h := ip_ c1 h
    refine v_iload_n dJ9_min_7cf53_9 rfl rfl ?_
    cases h
    exact v_iret dJ9_min_7cf53_10 rfl rfl
  · replace h := in_ c1 h
    refine v_iload_n dJ9_min_7cf53_5 rfl rfl ?_
    refine v_goto (tgt := 10) dJ9_min_7cf53_6 (by decide) ?_
    cases h
    exact v_iret dJ9_min_7cf53_10 rfl rfl

/-! J9 min (R) -/
def DJ9_min_f86c9 (N : Nat) (p0 : Int64) (p1 : Int64) (f : HF) : Option Int64 :=
  if p1 < p0 then
    some p1
  else
    some p0

theorem tJ9_min_f86c9 {l : Launch} {g : GT} {sz : Option Nat} (N : Nat) (p0 : Int64) (p1 : Int64) (f : HF) {r : Int64} (h : DJ9_min_f86c9 N p0 p1 f = some r) : Mt l g yJ9_min_f86c9 cJ9_min_f86c9 4 (Option.some Jvm.ClassFile.FieldType.long) 0 [.long p0, .long p1] f sz (roL (.inl r) f sz) := by
  unfold DJ9_min_f86c9 at h
  refine mt_of (by decide) (by decide) (?_ : V l g (fun _ => True) (RJ9, cJ9_min_f86c9, 4, (Option.some Jvm.ClassFile.FieldType.long), [], "min") 0 (roL (.inl r) f sz) 0 [(0, .long p0), (2, .long p1)] [] f sz 0 0)
  refine v_lload_n dJ9_min_f86c9_0 rfl rfl ?_
  refine v_lload_n dJ9_min_f86c9_1 rfl rfl ?_
  refine v_lcmp_gt (tgt := 10) dJ9_min_f86c9_2 dJ9_min_f86c9_3 (by decide) (fun c1 => ?_) (fun c1 => ?_)
  · replace h := ip_ c1 h
    refine v_lload_n dJ9_min_f86c9_10 rfl rfl ?_
    cases h
    exact v_lret dJ9_min_f86c9_11 rfl rfl
  · replace h := in_ c1 h
    refine v_lload_n dJ9_min_f86c9_6 rfl rfl ?_
    refine v_goto (tgt := 11) dJ9_min_f86c9_7 (by decide) ?_
    cases h
    exact v_lret dJ9_min_f86c9_11 rfl rfl

