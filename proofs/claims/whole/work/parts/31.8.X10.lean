/-! X10 takeValue (W) -/
def DX10_takeValue_389 (N : Nat)  (s0 : Nat) (s1 : Int32) (s2 : Int32) (f : HF) : Option (Int32 × HF) :=
    (sI f s0 0 s1 s2).bind fun f18 =>
    some ((1 : Int32), f18)

def DX10_takeValue_363 (N : Nat) (k263 : Nat → Int32 → Int32 → Int32 → Int32 → Int32 → HF → Option (Int32 × HF)) (v0 : Nat) (v1 : Int32) (v2 : Int32) (v3 : Int32) (v4 : Int32) (v5 : Int32) (v6 : Int32) (f : HF) : Option (Int32 × HF) :=
    if v6 = 0 then
      k263 v0 v1 v2 v3 v4 (v5 + 1) f
    else
      (gR f v0 9 12).bind fun x15 =>
      if v4 = 0 then
        (gR f v0 9 12).bind fun x16 =>
        (aI f x16 0 v1).bind fun x17 =>
        DX10_takeValue_389 N x15 v1 x17 f
      else
        DX10_takeValue_389 N x15 v1 v5 f

def DX10_takeValue_355 (N : Nat) (k263 : Nat → Int32 → Int32 → Int32 → Int32 → Int32 → HF → Option (Int32 × HF)) (k317 : Nat → Int32 → Int32 → Int32 → Int32 → Int32 → Int32 → Int32 → HF → Option (Int32 × HF)) (v0 : Nat) (v1 : Int32) (v2 : Int32) (v3 : Int32) (v4 : Int32) (v5 : Int32) (v7 : Int32) (s0 : Int32) (f : HF) : Option (Int32 × HF) :=
    k317 v0 v1 v2 v3 v4 v5 s0 (v7 + 1) f

def DX10_takeValue_317 (N : Nat) (k263 : Nat → Int32 → Int32 → Int32 → Int32 → Int32 → HF → Option (Int32 × HF)) (n : Nat) (v0 : Nat) (v1 : Int32) (v2 : Int32) (v3 : Int32) (v4 : Int32) (v5 : Int32) (v6 : Int32) (v7 : Int32) (f : HF) : Option (Int32 × HF) :=
  match n with
  | 0 => none
  | n + 1 =>
    (gI f v0 9 28).bind fun x14 =>
    if x14 ≤ v7 then
      DX10_takeValue_363 N k263 v0 v1 v2 v3 v4 v5 v6 f
    else
      if v6 = 0 then
        DX10_takeValue_363 N k263 v0 v1 v2 v3 v4 v5 v6 f
      else
        (gR f v0 9 36).bind fun x21 =>
        (aI f x21 0 (v2 + v7)).bind fun x22 =>
        (gR f v0 9 27).bind fun x23 =>
        (aI f x23 0 v7).bind fun x24 =>
        if x22 = x24 then
          DX10_takeValue_355 N k263 (DX10_takeValue_317 N k263 n) v0 v1 v2 v3 v4 v5 v7 (1 : Int32) f
        else
          DX10_takeValue_355 N k263 (DX10_takeValue_317 N k263 n) v0 v1 v2 v3 v4 v5 v7 (0 : Int32) f

def DX10_takeValue_312 (N : Nat) (k263 : Nat → Int32 → Int32 → Int32 → Int32 → Int32 → HF → Option (Int32 × HF)) (v0 : Nat) (v1 : Int32) (v2 : Int32) (v3 : Int32) (v4 : Int32) (v5 : Int32) (s0 : Int32) (f : HF) : Option (Int32 × HF) :=
    DX10_takeValue_317 N k263 N v0 v1 v2 v3 v4 v5 s0 (0 : Int32) f

def DX10_takeValue_263 (N : Nat)  (n : Nat) (v0 : Nat) (v1 : Int32) (v2 : Int32) (v3 : Int32) (v4 : Int32) (v5 : Int32) (f : HF) : Option (Int32 × HF) :=
  match n with
  | 0 => none
  | n + 1 =>
    (gR f v0 9 14).bind fun x5 =>
    (aI f x5 0 v1).bind fun x6 =>
    if x6 ≤ v5 then
      some ((0 : Int32), f)
    else
      (pV f v0 9 28 (.int (0 : Int32))).bind fun f7 =>
      (gR f7 v0 9 13).bind fun x8 =>
      (aI f7 x8 0 (((12 : Int32) * v1) + v5)).bind fun x9 =>
      bW (DX10_putNumber N v0 (x9.toInt64) (0 : Int32) f7) fun x10 f12 =>
      (gI f12 v0 9 28).bind fun x13 =>
      if x13 = (v3 - v2) then
        DX10_takeValue_312 N (DX10_takeValue_263 N n) v0 v1 v2 v3 v4 v5 (1 : Int32) f12
      else
        DX10_takeValue_312 N (DX10_takeValue_263 N n) v0 v1 v2 v3 v4 v5 (0 : Int32) f12

def DX10_takeValue_256 (N : Nat)  (v5 : Int32) (s0 : Nat) (s1 : Int32) (s2 : Int32) (f : HF) : Option (Int32 × HF) :=
    (sI f s0 0 s1 s2).bind fun f33 =>
    if v5 = 0 ∨ v5 = 1 then some (v5, f33) else none

def DX10_takeValue_234 (N : Nat)  (v0 : Nat) (v1 : Int32) (v4 : Int32) (s0 : Int32) (f : HF) : Option (Int32 × HF) :=
    (gR f v0 9 12).bind fun x30 =>
    if v4 = 0 then
      (gR f v0 9 12).bind fun x31 =>
      (aI f x31 0 v1).bind fun x32 =>
      DX10_takeValue_256 N s0 x30 v1 x32 f
    else
      DX10_takeValue_256 N s0 x30 v1 (-1 : Int32) f

def DX10_takeValue_229 (N : Nat)  (v0 : Nat) (v1 : Int32) (v4 : Int32) (f : HF) : Option (Int32 × HF) :=
    DX10_takeValue_234 N v0 v1 v4 (1 : Int32) f

def DX10_takeValue_206 (N : Nat)  (v5 : Int32) (s0 : Nat) (s1 : Int32) (s2 : Int32) (f : HF) : Option (Int32 × HF) :=
    (sI f s0 0 s1 s2).bind fun f43 =>
    if v5 = 0 ∨ v5 = 1 then some (v5, f43) else none

def DX10_takeValue_176 (N : Nat)  (v0 : Nat) (v1 : Int32) (v2 : Int32) (v4 : Int32) (s0 : Int32) (f : HF) : Option (Int32 × HF) :=
    (gR f v0 9 12).bind fun x40 =>
    if v4 = 0 then
      (gR f v0 9 12).bind fun x41 =>
      (aI f x41 0 v1).bind fun x42 =>
      DX10_takeValue_206 N s0 x40 v1 x42 f
    else
      (gR f v0 9 36).bind fun x44 =>
      (aI f x44 0 v2).bind fun x45 =>
      DX10_takeValue_206 N s0 x40 v1 (x45 - (48 : Int32)) f

def DX10_takeValue_175 (N : Nat)  (v0 : Nat) (v1 : Int32) (v2 : Int32) (v4 : Int32) (f : HF) : Option (Int32 × HF) :=
    DX10_takeValue_176 N v0 v1 v2 v4 (0 : Int32) f

def DX10_takeValue_131 (N : Nat)  (v5 : Int32) (s0 : Nat) (s1 : Int32) (s2 : Int32) (f : HF) : Option (Int32 × HF) :=
    (sI f s0 0 s1 s2).bind fun f59 =>
    if v5 = 0 ∨ v5 = 1 then some (v5, f59) else none

def DX10_takeValue_109 (N : Nat)  (v0 : Nat) (v1 : Int32) (v2 : Int32) (v3 : Int32) (v4 : Int32) (v5 : Int32) (f : HF) : Option (Int32 × HF) :=
    (gR f v0 9 11).bind fun x56 =>
    if v4 = 0 then
      (gR f v0 9 11).bind fun x57 =>
      (aI f x57 0 v1).bind fun x58 =>
      DX10_takeValue_131 N v5 x56 v1 x58 f
    else
      DX10_takeValue_131 N v5 x56 v1 (v3 - v2) f

def DX10_takeValue_71 (N : Nat)  (n : Nat) (v0 : Nat) (v1 : Int32) (v2 : Int32) (v3 : Int32) (v4 : Int32) (v5 : Int32) (v6 : Int32) (f : HF) : Option (Int32 × HF) :=
  match n with
  | 0 => none
  | n + 1 =>
    if v3 ≤ v6 then
      DX10_takeValue_109 N v0 v1 v2 v3 v4 v5 f
    else
      if v4 = 0 then
        DX10_takeValue_109 N v0 v1 v2 v3 v4 v5 f
      else
        (gR f v0 9 10).bind fun x61 =>
        (gR f v0 9 36).bind fun x62 =>
        (aI f x62 0 v6).bind fun x63 =>
        (sI f x61 0 ((((30 : Int32) * v1) + v6) - v2) x63).bind fun f64 =>
        DX10_takeValue_71 N n v0 v1 v2 v3 v4 v5 (v6 + 1) f64

def DX10_takeValue_60 (N : Nat) (k29 : Nat → Int32 → Int32 → Int32 → Int32 → Int32 → Int32 → HF → Option (Int32 × HF)) (v0 : Nat) (v1 : Int32) (v2 : Int32) (v3 : Int32) (v4 : Int32) (v6 : Int32) (s0 : Int32) (f : HF) : Option (Int32 × HF) :=
    k29 v0 v1 v2 v3 v4 s0 (v6 + 1) f

def DX10_takeValue_59 (N : Nat) (k29 : Nat → Int32 → Int32 → Int32 → Int32 → Int32 → Int32 → HF → Option (Int32 × HF)) (v0 : Nat) (v1 : Int32) (v2 : Int32) (v3 : Int32) (v4 : Int32) (v6 : Int32) (f : HF) : Option (Int32 × HF) :=
    DX10_takeValue_60 N k29 v0 v1 v2 v3 v4 v6 (0 : Int32) f

def DX10_takeValue_29 (N : Nat)  (n : Nat) (v0 : Nat) (v1 : Int32) (v2 : Int32) (v3 : Int32) (v4 : Int32) (v5 : Int32) (v6 : Int32) (f : HF) : Option (Int32 × HF) :=
  match n with
  | 0 => none
  | n + 1 =>
    if v3 ≤ v6 then
      DX10_takeValue_71 N N v0 v1 v2 v3 v4 v5 v2 f
    else
      if v5 = 0 then
        DX10_takeValue_59 N (DX10_takeValue_29 N n) v0 v1 v2 v3 v4 v6 f
      else
        (gR f v0 9 36).bind fun x67 =>
        (aI f x67 0 v6).bind fun x68 =>
        (DX10_isSign N v0 v1 x68 f).bind fun x69 =>
        if x69 = 0 then
          DX10_takeValue_59 N (DX10_takeValue_29 N n) v0 v1 v2 v3 v4 v6 f
        else
          DX10_takeValue_60 N (DX10_takeValue_29 N n) v0 v1 v2 v3 v4 v6 (1 : Int32) f

def DX10_takeValue_24 (N : Nat)  (v0 : Nat) (v1 : Int32) (v2 : Int32) (v3 : Int32) (v4 : Int32) (s0 : Int32) (f : HF) : Option (Int32 × HF) :=
    DX10_takeValue_29 N N v0 v1 v2 v3 v4 s0 v2 f

def DX10_takeValue (N : Nat) (this : Nat) (p0 : Int32) (p1 : Int32) (p2 : Int32) (p3 : Int32) (f : HF) : Option (Int32 × HF) :=
  (ck f this 9).bind fun _ =>
  (DX10_isSigned N this p0 f).bind fun x1 =>
  if x1 = 0 then
    (gR f this 9 2).bind fun x3 =>
    (aI f x3 0 p0).bind fun x4 =>
    if x4 = (2 : Int32) then
      if (p2 - p1) = (1 : Int32) then
        (gR f this 9 36).bind fun x47 =>
        (aI f x47 0 p1).bind fun x48 =>
        (DX10_isIn N (x48.toInt64) (48 : Int64) (49 : Int64) f).bind fun x49 =>
        if x49 = 0 then
          DX10_takeValue_175 N this p0 p1 p3 f
        else
          DX10_takeValue_176 N this p0 p1 p3 (1 : Int32) f
      else
        DX10_takeValue_175 N this p0 p1 p3 f
    else
      if p1 = p2 then
        if p3 = 0 then
          (DX10_mayPick N this p0 (-1 : Int32) f).bind fun x35 =>
          if x35 = 0 then
            DX10_takeValue_234 N this p0 p3 (0 : Int32) f
          else
            DX10_takeValue_229 N this p0 p3 f
        else
          DX10_takeValue_229 N this p0 p3 f
      else
        DX10_takeValue_263 N N this p0 p1 p2 p3 (0 : Int32) f
  else
    (DX10_most N this p0 f).bind fun x54 =>
    if x54 < (p2 - p1) then
      DX10_takeValue_24 N this p0 p1 p2 p3 (0 : Int32) f
    else
      DX10_takeValue_24 N this p0 p1 p2 p3 (1 : Int32) f

set_option maxRecDepth 20000 in
theorem tX10_takeValue_389 {l : Launch} {g : GT} {sz : Option Nat} (N : Nat)  {r : (Int32 × HF)} : ∀ (s0 : Nat) (s1 : Int32) (s2 : Int32) (f : HF), DX10_takeValue_389 N s0 s1 s2 f = some r → V l g (fun _ => True) (RX10, cX10_takeValue, 8, (Option.some Jvm.ClassFile.FieldType.boolean), [], "takeValue") 2 (roI (.inl r.1) r.2 sz) 389 [] [.int s2, .int s1, .ref s0] f sz 0 0 := by
  intro s0 s1 s2 f h
  unfold DX10_takeValue_389 at h
  obtain ⟨f18, hf18, h⟩ := ob_some h
  refine v_iast dX10_takeValue_389 hf18 ?_
  refine v_iconst (v := 1) dX10_takeValue_390 (by decide) ?_
  obtain rfl := Option.some.inj h
  exact v_zret dX10_takeValue_391 rfl (Or.inr rfl) rfl

set_option maxRecDepth 20000 in
theorem tX10_takeValue_363 {l : Launch} {g : GT} {sz : Option Nat} (N : Nat) (k263 : Nat → Int32 → Int32 → Int32 → Int32 → Int32 → HF → Option (Int32 × HF)) {r : (Int32 × HF)} (hk263 : ∀ (w0 : Nat) (w1 : Int32) (w2 : Int32) (w3 : Int32) (w4 : Int32) (w5 : Int32) (f : HF), k263 w0 w1 w2 w3 w4 w5 f = some r → V l g (fun _ => True) (RX10, cX10_takeValue, 8, (Option.some Jvm.ClassFile.FieldType.boolean), [], "takeValue") 2 (roI (.inl r.1) r.2 sz) 263 [(0, .ref w0), (1, .int w1), (2, .int w2), (3, .int w3), (4, .int w4), (5, .int w5)] [] f sz 0 0) : ∀ (v0 : Nat) (v1 : Int32) (v2 : Int32) (v3 : Int32) (v4 : Int32) (v5 : Int32) (v6 : Int32) (f : HF), DX10_takeValue_363 N k263 v0 v1 v2 v3 v4 v5 v6 f = some r → V l g (fun _ => True) (RX10, cX10_takeValue, 8, (Option.some Jvm.ClassFile.FieldType.boolean), [], "takeValue") 2 (roI (.inl r.1) r.2 sz) 363 [(0, .ref v0), (1, .int v1), (2, .int v2), (3, .int v3), (4, .int v4), (5, .int v5), (6, .int v6)] [] f sz 0 0 := by
  intro v0 v1 v2 v3 v4 v5 v6 f h
  unfold DX10_takeValue_363 at h
  refine v_iload dX10_takeValue_363 rfl ?_
  refine v_if_eq (tgt := 392) dX10_takeValue_365 (by decide) (fun c20 => ?_) (fun c20 => ?_)
  · replace h := ip_ c20 h
    refine v_iinc (v := (v5 + 1)) (ls1 := [(5, .int (v5 + 1)), (0, .ref v0), (1, .int v1), (2, .int v2), (3, .int v3), (4, .int v4), (6, .int v6)]) dX10_takeValue_392 rfl rfl (by decide) rfl ?_
    refine v_goto (tgt := 263) dX10_takeValue_395 (by decide) ?_
    exact v_sub (vs_c rfl (vs_c rfl (vs_c rfl (vs_c rfl (vs_c rfl (vs_c rfl vs_n)))))) (hk263 v0 v1 v2 v3 v4 (v5 + 1) f h)
  · replace h := in_ c20 h
    refine v_aload_n dX10_takeValue_368 rfl rfl ?_
    obtain ⟨x15, hx15, h⟩ := ob_some h
    refine v_getR dX10_takeValue_369 fl_X10_41 hx15 ?_
    refine v_iload_n dX10_takeValue_372 rfl rfl ?_
    refine v_iload dX10_takeValue_373 rfl ?_
    refine v_if_eq (tgt := 383) dX10_takeValue_375 (by decide) (fun c19 => ?_) (fun c19 => ?_)
    · replace h := ip_ c19 h
      refine v_aload_n dX10_takeValue_383 rfl rfl ?_
      obtain ⟨x16, hx16, h⟩ := ob_some h
      refine v_getR dX10_takeValue_384 fl_X10_41 hx16 ?_
      refine v_iload_n dX10_takeValue_387 rfl rfl ?_
      obtain ⟨x17, hx17, h⟩ := ob_some h
      refine v_iald dX10_takeValue_388 hx17 ?_
      exact v_sub (vs_n) (tX10_takeValue_389 N x15 v1 x17 f h)
    · replace h := in_ c19 h
      refine v_iload dX10_takeValue_378 rfl ?_
      refine v_goto (tgt := 389) dX10_takeValue_380 (by decide) ?_
      exact v_sub (vs_n) (tX10_takeValue_389 N x15 v1 v5 f h)

set_option maxRecDepth 20000 in
theorem tX10_takeValue_355 {l : Launch} {g : GT} {sz : Option Nat} (N : Nat) (k263 : Nat → Int32 → Int32 → Int32 → Int32 → Int32 → HF → Option (Int32 × HF)) (k317 : Nat → Int32 → Int32 → Int32 → Int32 → Int32 → Int32 → Int32 → HF → Option (Int32 × HF)) {r : (Int32 × HF)} (hk263 : ∀ (w0 : Nat) (w1 : Int32) (w2 : Int32) (w3 : Int32) (w4 : Int32) (w5 : Int32) (f : HF), k263 w0 w1 w2 w3 w4 w5 f = some r → V l g (fun _ => True) (RX10, cX10_takeValue, 8, (Option.some Jvm.ClassFile.FieldType.boolean), [], "takeValue") 2 (roI (.inl r.1) r.2 sz) 263 [(0, .ref w0), (1, .int w1), (2, .int w2), (3, .int w3), (4, .int w4), (5, .int w5)] [] f sz 0 0) (hk317 : ∀ (w0 : Nat) (w1 : Int32) (w2 : Int32) (w3 : Int32) (w4 : Int32) (w5 : Int32) (w6 : Int32) (w7 : Int32) (f : HF), k317 w0 w1 w2 w3 w4 w5 w6 w7 f = some r → V l g (fun _ => True) (RX10, cX10_takeValue, 8, (Option.some Jvm.ClassFile.FieldType.boolean), [], "takeValue") 2 (roI (.inl r.1) r.2 sz) 317 [(0, .ref w0), (1, .int w1), (2, .int w2), (3, .int w3), (4, .int w4), (5, .int w5), (6, .int w6), (7, .int w7)] [] f sz 0 0) : ∀ (v0 : Nat) (v1 : Int32) (v2 : Int32) (v3 : Int32) (v4 : Int32) (v5 : Int32) (v7 : Int32) (s0 : Int32) (f : HF), DX10_takeValue_355 N k263 k317 v0 v1 v2 v3 v4 v5 v7 s0 f = some r → V l g (fun _ => True) (RX10, cX10_takeValue, 8, (Option.some Jvm.ClassFile.FieldType.boolean), [], "takeValue") 2 (roI (.inl r.1) r.2 sz) 355 [(0, .ref v0), (1, .int v1), (2, .int v2), (3, .int v3), (4, .int v4), (5, .int v5), (7, .int v7)] [.int s0] f sz 0 0 := by
  intro v0 v1 v2 v3 v4 v5 v7 s0 f h
  unfold DX10_takeValue_355 at h
  refine v_istore (ls1 := [(6, .int s0), (0, .ref v0), (1, .int v1), (2, .int v2), (3, .int v3), (4, .int v4), (5, .int v5), (7, .int v7)]) dX10_takeValue_355 (by decide) rfl ?_
  refine v_iinc (v := (v7 + 1)) (ls1 := [(7, .int (v7 + 1)), (6, .int s0), (0, .ref v0), (1, .int v1), (2, .int v2), (3, .int v3), (4, .int v4), (5, .int v5)]) dX10_takeValue_357 rfl rfl (by decide) rfl ?_
  refine v_goto (tgt := 317) dX10_takeValue_360 (by decide) ?_
  exact v_sub (vs_c rfl (vs_c rfl (vs_c rfl (vs_c rfl (vs_c rfl (vs_c rfl (vs_c rfl (vs_c rfl vs_n)))))))) (hk317 v0 v1 v2 v3 v4 v5 s0 (v7 + 1) f h)

set_option maxRecDepth 20000 in
theorem tX10_takeValue_317 {l : Launch} {g : GT} {sz : Option Nat} (N : Nat) (k263 : Nat → Int32 → Int32 → Int32 → Int32 → Int32 → HF → Option (Int32 × HF)) {r : (Int32 × HF)} (hk263 : ∀ (w0 : Nat) (w1 : Int32) (w2 : Int32) (w3 : Int32) (w4 : Int32) (w5 : Int32) (f : HF), k263 w0 w1 w2 w3 w4 w5 f = some r → V l g (fun _ => True) (RX10, cX10_takeValue, 8, (Option.some Jvm.ClassFile.FieldType.boolean), [], "takeValue") 2 (roI (.inl r.1) r.2 sz) 263 [(0, .ref w0), (1, .int w1), (2, .int w2), (3, .int w3), (4, .int w4), (5, .int w5)] [] f sz 0 0) : ∀ (n : Nat), ∀ (v0 : Nat) (v1 : Int32) (v2 : Int32) (v3 : Int32) (v4 : Int32) (v5 : Int32) (v6 : Int32) (v7 : Int32) (f : HF), DX10_takeValue_317 N k263 n v0 v1 v2 v3 v4 v5 v6 v7 f = some r → V l g (fun _ => True) (RX10, cX10_takeValue, 8, (Option.some Jvm.ClassFile.FieldType.boolean), [], "takeValue") 2 (roI (.inl r.1) r.2 sz) 317 [(0, .ref v0), (1, .int v1), (2, .int v2), (3, .int v3), (4, .int v4), (5, .int v5), (6, .int v6), (7, .int v7)] [] f sz 0 0 := by
  intro n
  induction n with
  | zero => intro v0 v1 v2 v3 v4 v5 v6 v7 f h; cases h
  | succ n ih =>
    intro v0 v1 v2 v3 v4 v5 v6 v7 f h
    rw [DX10_takeValue_317] at h
    refine v_iload dX10_takeValue_317 rfl ?_
    refine v_aload_n dX10_takeValue_319 rfl rfl ?_
    obtain ⟨x14, hx14, h⟩ := ob_some h
    refine v_getI dX10_takeValue_320 fl_X10_180 hx14 ?_
    refine v_icmp_ge (tgt := 363) dX10_takeValue_323 (by decide) (fun c27 => ?_) (fun c27 => ?_)
    · replace h := ip_ c27 h
      exact v_sub (vs_c rfl (vs_c rfl (vs_c rfl (vs_c rfl (vs_c rfl (vs_c rfl (vs_c rfl vs_n))))))) (tX10_takeValue_363 N k263 hk263 v0 v1 v2 v3 v4 v5 v6 f h)
    · replace h := in_ c27 h
      refine v_iload dX10_takeValue_326 rfl ?_
      refine v_if_eq (tgt := 363) dX10_takeValue_328 (by decide) (fun c26 => ?_) (fun c26 => ?_)
      · replace h := ip_ c26 h
        exact v_sub (vs_c rfl (vs_c rfl (vs_c rfl (vs_c rfl (vs_c rfl (vs_c rfl (vs_c rfl vs_n))))))) (tX10_takeValue_363 N k263 hk263 v0 v1 v2 v3 v4 v5 v6 f h)
      · replace h := in_ c26 h
        refine v_aload_n dX10_takeValue_331 rfl rfl ?_
        obtain ⟨x21, hx21, h⟩ := ob_some h
        refine v_getR dX10_takeValue_332 fl_X10_99 hx21 ?_
        refine v_iload_n dX10_takeValue_335 rfl rfl ?_
        refine v_iload dX10_takeValue_336 rfl ?_
        refine v_iadd dX10_takeValue_338 ?_
        obtain ⟨x22, hx22, h⟩ := ob_some h
        refine v_iald dX10_takeValue_339 hx22 ?_
        refine v_aload_n dX10_takeValue_340 rfl rfl ?_
        obtain ⟨x23, hx23, h⟩ := ob_some h
        refine v_getR dX10_takeValue_341 fl_X10_84 hx23 ?_
        refine v_iload dX10_takeValue_344 rfl ?_
        obtain ⟨x24, hx24, h⟩ := ob_some h
        refine v_iald dX10_takeValue_346 hx24 ?_
        refine v_icmp_ne (tgt := 354) dX10_takeValue_347 (by decide) (fun c25 => ?_) (fun c25 => ?_)
        · replace h := in_ c25 h
          refine v_iconst (v := 0) dX10_takeValue_354 (by decide) ?_
          exact v_sub (vs_c rfl (vs_c rfl (vs_c rfl (vs_c rfl (vs_c rfl (vs_c rfl (vs_c rfl vs_n))))))) (tX10_takeValue_355 N k263 (DX10_takeValue_317 N k263 n) hk263 ih v0 v1 v2 v3 v4 v5 v7 (0 : Int32) f h)
        · replace h := ip_ c25 h
          refine v_iconst (v := 1) dX10_takeValue_350 (by decide) ?_
          refine v_goto (tgt := 355) dX10_takeValue_351 (by decide) ?_
          exact v_sub (vs_c rfl (vs_c rfl (vs_c rfl (vs_c rfl (vs_c rfl (vs_c rfl (vs_c rfl vs_n))))))) (tX10_takeValue_355 N k263 (DX10_takeValue_317 N k263 n) hk263 ih v0 v1 v2 v3 v4 v5 v7 (1 : Int32) f h)

set_option maxRecDepth 20000 in
theorem tX10_takeValue_312 {l : Launch} {g : GT} {sz : Option Nat} (N : Nat) (k263 : Nat → Int32 → Int32 → Int32 → Int32 → Int32 → HF → Option (Int32 × HF)) {r : (Int32 × HF)} (hk263 : ∀ (w0 : Nat) (w1 : Int32) (w2 : Int32) (w3 : Int32) (w4 : Int32) (w5 : Int32) (f : HF), k263 w0 w1 w2 w3 w4 w5 f = some r → V l g (fun _ => True) (RX10, cX10_takeValue, 8, (Option.some Jvm.ClassFile.FieldType.boolean), [], "takeValue") 2 (roI (.inl r.1) r.2 sz) 263 [(0, .ref w0), (1, .int w1), (2, .int w2), (3, .int w3), (4, .int w4), (5, .int w5)] [] f sz 0 0) : ∀ (v0 : Nat) (v1 : Int32) (v2 : Int32) (v3 : Int32) (v4 : Int32) (v5 : Int32) (s0 : Int32) (f : HF), DX10_takeValue_312 N k263 v0 v1 v2 v3 v4 v5 s0 f = some r → V l g (fun _ => True) (RX10, cX10_takeValue, 8, (Option.some Jvm.ClassFile.FieldType.boolean), [], "takeValue") 2 (roI (.inl r.1) r.2 sz) 312 [(0, .ref v0), (1, .int v1), (2, .int v2), (3, .int v3), (4, .int v4), (5, .int v5)] [.int s0] f sz 0 0 := by
  intro v0 v1 v2 v3 v4 v5 s0 f h
  unfold DX10_takeValue_312 at h
  refine v_istore (ls1 := [(6, .int s0), (0, .ref v0), (1, .int v1), (2, .int v2), (3, .int v3), (4, .int v4), (5, .int v5)]) dX10_takeValue_312 (by decide) rfl ?_
  refine v_iconst (v := 0) dX10_takeValue_314 (by decide) ?_
  refine v_istore (ls1 := [(7, .int (0 : Int32)), (6, .int s0), (0, .ref v0), (1, .int v1), (2, .int v2), (3, .int v3), (4, .int v4), (5, .int v5)]) dX10_takeValue_315 (by decide) rfl ?_
  exact v_sub (vs_c rfl (vs_c rfl (vs_c rfl (vs_c rfl (vs_c rfl (vs_c rfl (vs_c rfl (vs_c rfl vs_n)))))))) (tX10_takeValue_317 N k263 hk263 N v0 v1 v2 v3 v4 v5 s0 (0 : Int32) f h)

set_option maxRecDepth 20000 in
theorem tX10_takeValue_263 {l : Launch} {g : GT} {sz : Option Nat} (N : Nat)  {r : (Int32 × HF)} : ∀ (n : Nat), ∀ (v0 : Nat) (v1 : Int32) (v2 : Int32) (v3 : Int32) (v4 : Int32) (v5 : Int32) (f : HF), DX10_takeValue_263 N n v0 v1 v2 v3 v4 v5 f = some r → V l g (fun _ => True) (RX10, cX10_takeValue, 8, (Option.some Jvm.ClassFile.FieldType.boolean), [], "takeValue") 2 (roI (.inl r.1) r.2 sz) 263 [(0, .ref v0), (1, .int v1), (2, .int v2), (3, .int v3), (4, .int v4), (5, .int v5)] [] f sz 0 0 := by
  intro n
  induction n with
  | zero => intro v0 v1 v2 v3 v4 v5 f h; cases h
  | succ n ih =>
    intro v0 v1 v2 v3 v4 v5 f h
    rw [DX10_takeValue_263] at h
    refine v_iload dX10_takeValue_263 rfl ?_
    refine v_aload_n dX10_takeValue_265 rfl rfl ?_
    obtain ⟨x5, hx5, h⟩ := ob_some h
    refine v_getR dX10_takeValue_266 fl_X10_47 hx5 ?_
    refine v_iload_n dX10_takeValue_269 rfl rfl ?_
    obtain ⟨x6, hx6, h⟩ := ob_some h
    refine v_iald dX10_takeValue_270 hx6 ?_
    refine v_icmp_ge (tgt := 398) dX10_takeValue_271 (by decide) (fun c29 => ?_) (fun c29 => ?_)
    · replace h := ip_ c29 h
      refine v_iconst (v := 0) dX10_takeValue_398 (by decide) ?_
      obtain rfl := Option.some.inj h
      exact v_zret dX10_takeValue_399 rfl (Or.inl rfl) rfl
    · replace h := in_ c29 h
      refine v_aload_n dX10_takeValue_274 rfl rfl ?_
      refine v_iconst (v := 0) dX10_takeValue_275 (by decide) ?_
      obtain ⟨f7, hf7, h⟩ := ob_some h
      refine v_pI dX10_takeValue_276 fp_X10_180 hf7 ?_
      refine v_aload_n dX10_takeValue_279 rfl rfl ?_
      refine v_aload_n dX10_takeValue_280 rfl rfl ?_
      obtain ⟨x8, hx8, h⟩ := ob_some h
      refine v_getR dX10_takeValue_281 fl_X10_44 hx8 ?_
      refine v_bipush (v := 12) dX10_takeValue_284 (by decide) ?_
      refine v_iload_n dX10_takeValue_286 rfl rfl ?_
      refine v_imul dX10_takeValue_287 ?_
      refine v_iload dX10_takeValue_288 rfl ?_
      refine v_iadd dX10_takeValue_290 ?_
      obtain ⟨x9, hx9, h⟩ := ob_some h
      refine v_iald dX10_takeValue_291 hx9 ?_
      refine v_i2l dX10_takeValue_292 ?_
      refine v_iconst (v := 0) dX10_takeValue_293 (by decide) ?_
      obtain ⟨x10, f12, hx11, h⟩ := bW_some h
      have ehx11 := tX10_putNumber (l := l) (g := g) (sz := sz) N v0 (x9.toInt64) (0 : Int32) f7 hx11
      refine v_cVU dX10_takeValue_294 ml_X10_187 ok_X10_putNumber ehx11 (kX10_putNumber N v0 (x9.toInt64) (0 : Int32) f7 hx11) rfl (by decide) rfl (rest := []) rfl (Nat.le_of_ble_eq_true rfl) ?_
      refine v_aload_n dX10_takeValue_297 rfl rfl ?_
      obtain ⟨x13, hx13, h⟩ := ob_some h
      refine v_getI dX10_takeValue_298 fl_X10_180 hx13 ?_
      refine v_iload_n dX10_takeValue_301 rfl rfl ?_
      refine v_iload_n dX10_takeValue_302 rfl rfl ?_
      refine v_isub dX10_takeValue_303 ?_
      refine v_icmp_ne (tgt := 311) dX10_takeValue_304 (by decide) (fun c28 => ?_) (fun c28 => ?_)
      · replace h := in_ c28 h
        refine v_iconst (v := 0) dX10_takeValue_311 (by decide) ?_
        exact v_sub (vs_c rfl (vs_c rfl (vs_c rfl (vs_c rfl (vs_c rfl (vs_c rfl vs_n)))))) (tX10_takeValue_312 N (DX10_takeValue_263 N n) ih v0 v1 v2 v3 v4 v5 (0 : Int32) f12 h)
      · replace h := ip_ c28 h
        refine v_iconst (v := 1) dX10_takeValue_307 (by decide) ?_
        refine v_goto (tgt := 312) dX10_takeValue_308 (by decide) ?_
        exact v_sub (vs_c rfl (vs_c rfl (vs_c rfl (vs_c rfl (vs_c rfl (vs_c rfl vs_n)))))) (tX10_takeValue_312 N (DX10_takeValue_263 N n) ih v0 v1 v2 v3 v4 v5 (1 : Int32) f12 h)

set_option maxRecDepth 20000 in
theorem tX10_takeValue_256 {l : Launch} {g : GT} {sz : Option Nat} (N : Nat)  {r : (Int32 × HF)} : ∀ (v5 : Int32) (s0 : Nat) (s1 : Int32) (s2 : Int32) (f : HF), DX10_takeValue_256 N v5 s0 s1 s2 f = some r → V l g (fun _ => True) (RX10, cX10_takeValue, 8, (Option.some Jvm.ClassFile.FieldType.boolean), [], "takeValue") 2 (roI (.inl r.1) r.2 sz) 256 [(5, .int v5)] [.int s2, .int s1, .ref s0] f sz 0 0 := by
  intro v5 s0 s1 s2 f h
  unfold DX10_takeValue_256 at h
  obtain ⟨f33, hf33, h⟩ := ob_some h
  refine v_iast dX10_takeValue_256 hf33 ?_
  refine v_iload dX10_takeValue_257 rfl ?_
  obtain ⟨hB, h⟩ := if_some h
  obtain rfl := Option.some.inj h
  exact v_zret dX10_takeValue_259 rfl hB rfl

set_option maxRecDepth 20000 in
theorem tX10_takeValue_234 {l : Launch} {g : GT} {sz : Option Nat} (N : Nat)  {r : (Int32 × HF)} : ∀ (v0 : Nat) (v1 : Int32) (v4 : Int32) (s0 : Int32) (f : HF), DX10_takeValue_234 N v0 v1 v4 s0 f = some r → V l g (fun _ => True) (RX10, cX10_takeValue, 8, (Option.some Jvm.ClassFile.FieldType.boolean), [], "takeValue") 2 (roI (.inl r.1) r.2 sz) 234 [(0, .ref v0), (1, .int v1), (4, .int v4)] [.int s0] f sz 0 0 := by
  intro v0 v1 v4 s0 f h
  unfold DX10_takeValue_234 at h
  refine v_istore (ls1 := [(5, .int s0), (0, .ref v0), (1, .int v1), (4, .int v4)]) dX10_takeValue_234 (by decide) rfl ?_
  refine v_aload_n dX10_takeValue_236 rfl rfl ?_
  obtain ⟨x30, hx30, h⟩ := ob_some h
  refine v_getR dX10_takeValue_237 fl_X10_41 hx30 ?_
  refine v_iload_n dX10_takeValue_240 rfl rfl ?_
  refine v_iload dX10_takeValue_241 rfl ?_
  refine v_if_eq (tgt := 250) dX10_takeValue_243 (by decide) (fun c34 => ?_) (fun c34 => ?_)
  · replace h := ip_ c34 h
    refine v_aload_n dX10_takeValue_250 rfl rfl ?_
    obtain ⟨x31, hx31, h⟩ := ob_some h
    refine v_getR dX10_takeValue_251 fl_X10_41 hx31 ?_
    refine v_iload_n dX10_takeValue_254 rfl rfl ?_
    obtain ⟨x32, hx32, h⟩ := ob_some h
    refine v_iald dX10_takeValue_255 hx32 ?_
    exact v_sub (vs_c rfl vs_n) (tX10_takeValue_256 N s0 x30 v1 x32 f h)
  · replace h := in_ c34 h
    refine v_iconst (v := -1) dX10_takeValue_246 (by decide) ?_
    refine v_goto (tgt := 256) dX10_takeValue_247 (by decide) ?_
    exact v_sub (vs_c rfl vs_n) (tX10_takeValue_256 N s0 x30 v1 (-1 : Int32) f h)

set_option maxRecDepth 20000 in
theorem tX10_takeValue_229 {l : Launch} {g : GT} {sz : Option Nat} (N : Nat)  {r : (Int32 × HF)} : ∀ (v0 : Nat) (v1 : Int32) (v4 : Int32) (f : HF), DX10_takeValue_229 N v0 v1 v4 f = some r → V l g (fun _ => True) (RX10, cX10_takeValue, 8, (Option.some Jvm.ClassFile.FieldType.boolean), [], "takeValue") 2 (roI (.inl r.1) r.2 sz) 229 [(0, .ref v0), (1, .int v1), (4, .int v4)] [] f sz 0 0 := by
  intro v0 v1 v4 f h
  unfold DX10_takeValue_229 at h
  refine v_iconst (v := 1) dX10_takeValue_229 (by decide) ?_
  refine v_goto (tgt := 234) dX10_takeValue_230 (by decide) ?_
  exact v_sub (vs_c rfl (vs_c rfl (vs_c rfl vs_n))) (tX10_takeValue_234 N v0 v1 v4 (1 : Int32) f h)

set_option maxRecDepth 20000 in
theorem tX10_takeValue_206 {l : Launch} {g : GT} {sz : Option Nat} (N : Nat)  {r : (Int32 × HF)} : ∀ (v5 : Int32) (s0 : Nat) (s1 : Int32) (s2 : Int32) (f : HF), DX10_takeValue_206 N v5 s0 s1 s2 f = some r → V l g (fun _ => True) (RX10, cX10_takeValue, 8, (Option.some Jvm.ClassFile.FieldType.boolean), [], "takeValue") 2 (roI (.inl r.1) r.2 sz) 206 [(5, .int v5)] [.int s2, .int s1, .ref s0] f sz 0 0 := by
  intro v5 s0 s1 s2 f h
  unfold DX10_takeValue_206 at h
  obtain ⟨f43, hf43, h⟩ := ob_some h
  refine v_iast dX10_takeValue_206 hf43 ?_
  refine v_iload dX10_takeValue_207 rfl ?_
  obtain ⟨hB, h⟩ := if_some h
  obtain rfl := Option.some.inj h
  exact v_zret dX10_takeValue_209 rfl hB rfl

set_option maxRecDepth 20000 in
theorem tX10_takeValue_176 {l : Launch} {g : GT} {sz : Option Nat} (N : Nat)  {r : (Int32 × HF)} : ∀ (v0 : Nat) (v1 : Int32) (v2 : Int32) (v4 : Int32) (s0 : Int32) (f : HF), DX10_takeValue_176 N v0 v1 v2 v4 s0 f = some r → V l g (fun _ => True) (RX10, cX10_takeValue, 8, (Option.some Jvm.ClassFile.FieldType.boolean), [], "takeValue") 2 (roI (.inl r.1) r.2 sz) 176 [(0, .ref v0), (1, .int v1), (2, .int v2), (4, .int v4)] [.int s0] f sz 0 0 := by
  intro v0 v1 v2 v4 s0 f h
  unfold DX10_takeValue_176 at h
  refine v_istore (ls1 := [(5, .int s0), (0, .ref v0), (1, .int v1), (2, .int v2), (4, .int v4)]) dX10_takeValue_176 (by decide) rfl ?_
  refine v_aload_n dX10_takeValue_178 rfl rfl ?_
  obtain ⟨x40, hx40, h⟩ := ob_some h
  refine v_getR dX10_takeValue_179 fl_X10_41 hx40 ?_
  refine v_iload_n dX10_takeValue_182 rfl rfl ?_
  refine v_iload dX10_takeValue_183 rfl ?_
  refine v_if_eq (tgt := 200) dX10_takeValue_185 (by decide) (fun c46 => ?_) (fun c46 => ?_)
  · replace h := ip_ c46 h
    refine v_aload_n dX10_takeValue_200 rfl rfl ?_
    obtain ⟨x41, hx41, h⟩ := ob_some h
    refine v_getR dX10_takeValue_201 fl_X10_41 hx41 ?_
    refine v_iload_n dX10_takeValue_204 rfl rfl ?_
    obtain ⟨x42, hx42, h⟩ := ob_some h
    refine v_iald dX10_takeValue_205 hx42 ?_
    exact v_sub (vs_c rfl vs_n) (tX10_takeValue_206 N s0 x40 v1 x42 f h)
  · replace h := in_ c46 h
    refine v_aload_n dX10_takeValue_188 rfl rfl ?_
    obtain ⟨x44, hx44, h⟩ := ob_some h
    refine v_getR dX10_takeValue_189 fl_X10_99 hx44 ?_
    refine v_iload_n dX10_takeValue_192 rfl rfl ?_
    obtain ⟨x45, hx45, h⟩ := ob_some h
    refine v_iald dX10_takeValue_193 hx45 ?_
    refine v_bipush (v := 48) dX10_takeValue_194 (by decide) ?_
    refine v_isub dX10_takeValue_196 ?_
    refine v_goto (tgt := 206) dX10_takeValue_197 (by decide) ?_
    exact v_sub (vs_c rfl vs_n) (tX10_takeValue_206 N s0 x40 v1 (x45 - (48 : Int32)) f h)

set_option maxRecDepth 20000 in
theorem tX10_takeValue_175 {l : Launch} {g : GT} {sz : Option Nat} (N : Nat)  {r : (Int32 × HF)} : ∀ (v0 : Nat) (v1 : Int32) (v2 : Int32) (v4 : Int32) (f : HF), DX10_takeValue_175 N v0 v1 v2 v4 f = some r → V l g (fun _ => True) (RX10, cX10_takeValue, 8, (Option.some Jvm.ClassFile.FieldType.boolean), [], "takeValue") 2 (roI (.inl r.1) r.2 sz) 175 [(0, .ref v0), (1, .int v1), (2, .int v2), (4, .int v4)] [] f sz 0 0 := by
  intro v0 v1 v2 v4 f h
  unfold DX10_takeValue_175 at h
  refine v_iconst (v := 0) dX10_takeValue_175 (by decide) ?_
  exact v_sub (vs_c rfl (vs_c rfl (vs_c rfl (vs_c rfl vs_n)))) (tX10_takeValue_176 N v0 v1 v2 v4 (0 : Int32) f h)

set_option maxRecDepth 20000 in
theorem tX10_takeValue_131 {l : Launch} {g : GT} {sz : Option Nat} (N : Nat)  {r : (Int32 × HF)} : ∀ (v5 : Int32) (s0 : Nat) (s1 : Int32) (s2 : Int32) (f : HF), DX10_takeValue_131 N v5 s0 s1 s2 f = some r → V l g (fun _ => True) (RX10, cX10_takeValue, 8, (Option.some Jvm.ClassFile.FieldType.boolean), [], "takeValue") 2 (roI (.inl r.1) r.2 sz) 131 [(5, .int v5)] [.int s2, .int s1, .ref s0] f sz 0 0 := by
  intro v5 s0 s1 s2 f h
  unfold DX10_takeValue_131 at h
  obtain ⟨f59, hf59, h⟩ := ob_some h
  refine v_iast dX10_takeValue_131 hf59 ?_
  refine v_iload dX10_takeValue_132 rfl ?_
  obtain ⟨hB, h⟩ := if_some h
  obtain rfl := Option.some.inj h
  exact v_zret dX10_takeValue_134 rfl hB rfl

set_option maxRecDepth 20000 in
theorem tX10_takeValue_109 {l : Launch} {g : GT} {sz : Option Nat} (N : Nat)  {r : (Int32 × HF)} : ∀ (v0 : Nat) (v1 : Int32) (v2 : Int32) (v3 : Int32) (v4 : Int32) (v5 : Int32) (f : HF), DX10_takeValue_109 N v0 v1 v2 v3 v4 v5 f = some r → V l g (fun _ => True) (RX10, cX10_takeValue, 8, (Option.some Jvm.ClassFile.FieldType.boolean), [], "takeValue") 2 (roI (.inl r.1) r.2 sz) 109 [(0, .ref v0), (1, .int v1), (2, .int v2), (3, .int v3), (4, .int v4), (5, .int v5)] [] f sz 0 0 := by
  intro v0 v1 v2 v3 v4 v5 f h
  unfold DX10_takeValue_109 at h
  refine v_aload_n dX10_takeValue_109 rfl rfl ?_
  obtain ⟨x56, hx56, h⟩ := ob_some h
  refine v_getR dX10_takeValue_110 fl_X10_38 hx56 ?_
  refine v_iload_n dX10_takeValue_113 rfl rfl ?_
  refine v_iload dX10_takeValue_114 rfl ?_
  refine v_if_eq (tgt := 125) dX10_takeValue_116 (by decide) (fun c60 => ?_) (fun c60 => ?_)
  · replace h := ip_ c60 h
    refine v_aload_n dX10_takeValue_125 rfl rfl ?_
    obtain ⟨x57, hx57, h⟩ := ob_some h
    refine v_getR dX10_takeValue_126 fl_X10_38 hx57 ?_
    refine v_iload_n dX10_takeValue_129 rfl rfl ?_
    obtain ⟨x58, hx58, h⟩ := ob_some h
    refine v_iald dX10_takeValue_130 hx58 ?_
    exact v_sub (vs_c rfl vs_n) (tX10_takeValue_131 N v5 x56 v1 x58 f h)
  · replace h := in_ c60 h
    refine v_iload_n dX10_takeValue_119 rfl rfl ?_
    refine v_iload_n dX10_takeValue_120 rfl rfl ?_
    refine v_isub dX10_takeValue_121 ?_
    refine v_goto (tgt := 131) dX10_takeValue_122 (by decide) ?_
    exact v_sub (vs_c rfl vs_n) (tX10_takeValue_131 N v5 x56 v1 (v3 - v2) f h)

set_option maxRecDepth 20000 in
theorem tX10_takeValue_71 {l : Launch} {g : GT} {sz : Option Nat} (N : Nat)  {r : (Int32 × HF)} : ∀ (n : Nat), ∀ (v0 : Nat) (v1 : Int32) (v2 : Int32) (v3 : Int32) (v4 : Int32) (v5 : Int32) (v6 : Int32) (f : HF), DX10_takeValue_71 N n v0 v1 v2 v3 v4 v5 v6 f = some r → V l g (fun _ => True) (RX10, cX10_takeValue, 8, (Option.some Jvm.ClassFile.FieldType.boolean), [], "takeValue") 2 (roI (.inl r.1) r.2 sz) 71 [(0, .ref v0), (1, .int v1), (2, .int v2), (3, .int v3), (4, .int v4), (5, .int v5), (6, .int v6)] [] f sz 0 0 := by
  intro n
  induction n with
  | zero => intro v0 v1 v2 v3 v4 v5 v6 f h; cases h
  | succ n ih =>
    intro v0 v1 v2 v3 v4 v5 v6 f h
    rw [DX10_takeValue_71] at h
    refine v_iload dX10_takeValue_71 rfl ?_
    refine v_iload_n dX10_takeValue_73 rfl rfl ?_
    refine v_icmp_ge (tgt := 109) dX10_takeValue_74 (by decide) (fun c66 => ?_) (fun c66 => ?_)
    · replace h := ip_ c66 h
      exact v_sub (vs_c rfl (vs_c rfl (vs_c rfl (vs_c rfl (vs_c rfl (vs_c rfl vs_n)))))) (tX10_takeValue_109 N v0 v1 v2 v3 v4 v5 f h)
    · replace h := in_ c66 h
      refine v_iload dX10_takeValue_77 rfl ?_
      refine v_if_eq (tgt := 109) dX10_takeValue_79 (by decide) (fun c65 => ?_) (fun c65 => ?_)
      · replace h := ip_ c65 h
        exact v_sub (vs_c rfl (vs_c rfl (vs_c rfl (vs_c rfl (vs_c rfl (vs_c rfl vs_n)))))) (tX10_takeValue_109 N v0 v1 v2 v3 v4 v5 f h)
      · replace h := in_ c65 h
        refine v_aload_n dX10_takeValue_82 rfl rfl ?_
        obtain ⟨x61, hx61, h⟩ := ob_some h
        refine v_getR dX10_takeValue_83 fl_X10_35 hx61 ?_
        refine v_bipush (v := 30) dX10_takeValue_86 (by decide) ?_
        refine v_iload_n dX10_takeValue_88 rfl rfl ?_
        refine v_imul dX10_takeValue_89 ?_
        refine v_iload dX10_takeValue_90 rfl ?_
        refine v_iadd dX10_takeValue_92 ?_
        refine v_iload_n dX10_takeValue_93 rfl rfl ?_
        refine v_isub dX10_takeValue_94 ?_
        refine v_aload_n dX10_takeValue_95 rfl rfl ?_
        obtain ⟨x62, hx62, h⟩ := ob_some h
        refine v_getR dX10_takeValue_96 fl_X10_99 hx62 ?_
        refine v_iload dX10_takeValue_99 rfl ?_
        obtain ⟨x63, hx63, h⟩ := ob_some h
        refine v_iald dX10_takeValue_101 hx63 ?_
        obtain ⟨f64, hf64, h⟩ := ob_some h
        refine v_iast dX10_takeValue_102 hf64 ?_
        refine v_iinc (v := (v6 + 1)) (ls1 := [(6, .int (v6 + 1)), (0, .ref v0), (1, .int v1), (2, .int v2), (3, .int v3), (4, .int v4), (5, .int v5)]) dX10_takeValue_103 rfl rfl (by decide) rfl ?_
        refine v_goto (tgt := 71) dX10_takeValue_106 (by decide) ?_
        exact v_sub (vs_c rfl (vs_c rfl (vs_c rfl (vs_c rfl (vs_c rfl (vs_c rfl (vs_c rfl vs_n))))))) (ih v0 v1 v2 v3 v4 v5 (v6 + 1) f64 h)

set_option maxRecDepth 20000 in
theorem tX10_takeValue_60 {l : Launch} {g : GT} {sz : Option Nat} (N : Nat) (k29 : Nat → Int32 → Int32 → Int32 → Int32 → Int32 → Int32 → HF → Option (Int32 × HF)) {r : (Int32 × HF)} (hk29 : ∀ (w0 : Nat) (w1 : Int32) (w2 : Int32) (w3 : Int32) (w4 : Int32) (w5 : Int32) (w6 : Int32) (f : HF), k29 w0 w1 w2 w3 w4 w5 w6 f = some r → V l g (fun _ => True) (RX10, cX10_takeValue, 8, (Option.some Jvm.ClassFile.FieldType.boolean), [], "takeValue") 2 (roI (.inl r.1) r.2 sz) 29 [(0, .ref w0), (1, .int w1), (2, .int w2), (3, .int w3), (4, .int w4), (5, .int w5), (6, .int w6)] [] f sz 0 0) : ∀ (v0 : Nat) (v1 : Int32) (v2 : Int32) (v3 : Int32) (v4 : Int32) (v6 : Int32) (s0 : Int32) (f : HF), DX10_takeValue_60 N k29 v0 v1 v2 v3 v4 v6 s0 f = some r → V l g (fun _ => True) (RX10, cX10_takeValue, 8, (Option.some Jvm.ClassFile.FieldType.boolean), [], "takeValue") 2 (roI (.inl r.1) r.2 sz) 60 [(0, .ref v0), (1, .int v1), (2, .int v2), (3, .int v3), (4, .int v4), (6, .int v6)] [.int s0] f sz 0 0 := by
  intro v0 v1 v2 v3 v4 v6 s0 f h
  unfold DX10_takeValue_60 at h
  refine v_istore (ls1 := [(5, .int s0), (0, .ref v0), (1, .int v1), (2, .int v2), (3, .int v3), (4, .int v4), (6, .int v6)]) dX10_takeValue_60 (by decide) rfl ?_
  refine v_iinc (v := (v6 + 1)) (ls1 := [(6, .int (v6 + 1)), (5, .int s0), (0, .ref v0), (1, .int v1), (2, .int v2), (3, .int v3), (4, .int v4)]) dX10_takeValue_62 rfl rfl (by decide) rfl ?_
  refine v_goto (tgt := 29) dX10_takeValue_65 (by decide) ?_
  exact v_sub (vs_c rfl (vs_c rfl (vs_c rfl (vs_c rfl (vs_c rfl (vs_c rfl (vs_c rfl vs_n))))))) (hk29 v0 v1 v2 v3 v4 s0 (v6 + 1) f h)

set_option maxRecDepth 20000 in
theorem tX10_takeValue_59 {l : Launch} {g : GT} {sz : Option Nat} (N : Nat) (k29 : Nat → Int32 → Int32 → Int32 → Int32 → Int32 → Int32 → HF → Option (Int32 × HF)) {r : (Int32 × HF)} (hk29 : ∀ (w0 : Nat) (w1 : Int32) (w2 : Int32) (w3 : Int32) (w4 : Int32) (w5 : Int32) (w6 : Int32) (f : HF), k29 w0 w1 w2 w3 w4 w5 w6 f = some r → V l g (fun _ => True) (RX10, cX10_takeValue, 8, (Option.some Jvm.ClassFile.FieldType.boolean), [], "takeValue") 2 (roI (.inl r.1) r.2 sz) 29 [(0, .ref w0), (1, .int w1), (2, .int w2), (3, .int w3), (4, .int w4), (5, .int w5), (6, .int w6)] [] f sz 0 0) : ∀ (v0 : Nat) (v1 : Int32) (v2 : Int32) (v3 : Int32) (v4 : Int32) (v6 : Int32) (f : HF), DX10_takeValue_59 N k29 v0 v1 v2 v3 v4 v6 f = some r → V l g (fun _ => True) (RX10, cX10_takeValue, 8, (Option.some Jvm.ClassFile.FieldType.boolean), [], "takeValue") 2 (roI (.inl r.1) r.2 sz) 59 [(0, .ref v0), (1, .int v1), (2, .int v2), (3, .int v3), (4, .int v4), (6, .int v6)] [] f sz 0 0 := by
  intro v0 v1 v2 v3 v4 v6 f h
  unfold DX10_takeValue_59 at h
  refine v_iconst (v := 0) dX10_takeValue_59 (by decide) ?_
  exact v_sub (vs_c rfl (vs_c rfl (vs_c rfl (vs_c rfl (vs_c rfl (vs_c rfl vs_n)))))) (tX10_takeValue_60 N k29 hk29 v0 v1 v2 v3 v4 v6 (0 : Int32) f h)

set_option maxRecDepth 20000 in
theorem tX10_takeValue_29 {l : Launch} {g : GT} {sz : Option Nat} (N : Nat)  {r : (Int32 × HF)} : ∀ (n : Nat), ∀ (v0 : Nat) (v1 : Int32) (v2 : Int32) (v3 : Int32) (v4 : Int32) (v5 : Int32) (v6 : Int32) (f : HF), DX10_takeValue_29 N n v0 v1 v2 v3 v4 v5 v6 f = some r → V l g (fun _ => True) (RX10, cX10_takeValue, 8, (Option.some Jvm.ClassFile.FieldType.boolean), [], "takeValue") 2 (roI (.inl r.1) r.2 sz) 29 [(0, .ref v0), (1, .int v1), (2, .int v2), (3, .int v3), (4, .int v4), (5, .int v5), (6, .int v6)] [] f sz 0 0 := by
  intro n
  induction n with
  | zero => intro v0 v1 v2 v3 v4 v5 v6 f h; cases h
  | succ n ih =>
    intro v0 v1 v2 v3 v4 v5 v6 f h
    rw [DX10_takeValue_29] at h
    refine v_iload dX10_takeValue_29 rfl ?_
    refine v_iload_n dX10_takeValue_31 rfl rfl ?_
    refine v_icmp_ge (tgt := 68) dX10_takeValue_32 (by decide) (fun c73 => ?_) (fun c73 => ?_)
    · replace h := ip_ c73 h
      refine v_iload_n dX10_takeValue_68 rfl rfl ?_
      refine v_istore (ls1 := [(6, .int v2), (0, .ref v0), (1, .int v1), (2, .int v2), (3, .int v3), (4, .int v4), (5, .int v5)]) dX10_takeValue_69 (by decide) rfl ?_
      exact v_sub (vs_c rfl (vs_c rfl (vs_c rfl (vs_c rfl (vs_c rfl (vs_c rfl (vs_c rfl vs_n))))))) (tX10_takeValue_71 N N v0 v1 v2 v3 v4 v5 v2 f h)
    · replace h := in_ c73 h
      refine v_iload dX10_takeValue_35 rfl ?_
      refine v_if_eq (tgt := 59) dX10_takeValue_37 (by decide) (fun c72 => ?_) (fun c72 => ?_)
      · replace h := ip_ c72 h
        exact v_sub (vs_c rfl (vs_c rfl (vs_c rfl (vs_c rfl (vs_c rfl (vs_c rfl vs_n)))))) (tX10_takeValue_59 N (DX10_takeValue_29 N n) ih v0 v1 v2 v3 v4 v6 f h)
      · replace h := in_ c72 h
        refine v_aload_n dX10_takeValue_40 rfl rfl ?_
        refine v_iload_n dX10_takeValue_41 rfl rfl ?_
        refine v_aload_n dX10_takeValue_42 rfl rfl ?_
        obtain ⟨x67, hx67, h⟩ := ob_some h
        refine v_getR dX10_takeValue_43 fl_X10_99 hx67 ?_
        refine v_iload dX10_takeValue_46 rfl ?_
        obtain ⟨x68, hx68, h⟩ := ob_some h
        refine v_iald dX10_takeValue_48 hx68 ?_
        obtain ⟨x69, hx70, h⟩ := ob_some h
        have ehx70 := tX10_isSign (l := l) (g := g) (sz := sz) N v0 v1 x68 f hx70
        refine v_cVI dX10_takeValue_49 ml_X10_143 ok_X10_isSign ehx70 (kX10_isSign N v0 v1 x68 f hx70) rfl (by decide) rfl (rest := []) rfl (Nat.le_of_ble_eq_true rfl) ?_
        refine v_if_eq (tgt := 59) dX10_takeValue_52 (by decide) (fun c71 => ?_) (fun c71 => ?_)
        · replace h := ip_ c71 h
          exact v_sub (vs_c rfl (vs_c rfl (vs_c rfl (vs_c rfl (vs_c rfl (vs_c rfl vs_n)))))) (tX10_takeValue_59 N (DX10_takeValue_29 N n) ih v0 v1 v2 v3 v4 v6 f h)
        · replace h := in_ c71 h
          refine v_iconst (v := 1) dX10_takeValue_55 (by decide) ?_
          refine v_goto (tgt := 60) dX10_takeValue_56 (by decide) ?_
          exact v_sub (vs_c rfl (vs_c rfl (vs_c rfl (vs_c rfl (vs_c rfl (vs_c rfl vs_n)))))) (tX10_takeValue_60 N (DX10_takeValue_29 N n) ih v0 v1 v2 v3 v4 v6 (1 : Int32) f h)

set_option maxRecDepth 20000 in
theorem tX10_takeValue_24 {l : Launch} {g : GT} {sz : Option Nat} (N : Nat)  {r : (Int32 × HF)} : ∀ (v0 : Nat) (v1 : Int32) (v2 : Int32) (v3 : Int32) (v4 : Int32) (s0 : Int32) (f : HF), DX10_takeValue_24 N v0 v1 v2 v3 v4 s0 f = some r → V l g (fun _ => True) (RX10, cX10_takeValue, 8, (Option.some Jvm.ClassFile.FieldType.boolean), [], "takeValue") 2 (roI (.inl r.1) r.2 sz) 24 [(0, .ref v0), (1, .int v1), (2, .int v2), (3, .int v3), (4, .int v4)] [.int s0] f sz 0 0 := by
  intro v0 v1 v2 v3 v4 s0 f h
  unfold DX10_takeValue_24 at h
  refine v_istore (ls1 := [(5, .int s0), (0, .ref v0), (1, .int v1), (2, .int v2), (3, .int v3), (4, .int v4)]) dX10_takeValue_24 (by decide) rfl ?_
  refine v_iload_n dX10_takeValue_26 rfl rfl ?_
  refine v_istore (ls1 := [(6, .int v2), (5, .int s0), (0, .ref v0), (1, .int v1), (2, .int v2), (3, .int v3), (4, .int v4)]) dX10_takeValue_27 (by decide) rfl ?_
  exact v_sub (vs_c rfl (vs_c rfl (vs_c rfl (vs_c rfl (vs_c rfl (vs_c rfl (vs_c rfl vs_n))))))) (tX10_takeValue_29 N N v0 v1 v2 v3 v4 s0 v2 f h)

set_option maxRecDepth 20000 in
theorem kX10_takeValue (N : Nat) (this : Nat) (p0 : Int32) (p1 : Int32) (p2 : Int32) (p3 : Int32) (f : HF) {r : (Int32 × HF)} (h : DX10_takeValue N this p0 p1 p2 p3 f = some r) : ck f this 9 = some () := by
  unfold DX10_takeValue at h
  obtain ⟨_, hck, _⟩ := ob_some h
  exact hck

set_option maxRecDepth 20000 in
theorem tX10_takeValue {l : Launch} {g : GT} {sz : Option Nat} (N : Nat) (this : Nat) (p0 : Int32) (p1 : Int32) (p2 : Int32) (p3 : Int32) (f : HF) {r : (Int32 × HF)} (h : DX10_takeValue N this p0 p1 p2 p3 f = some r) : Mt l g yX10_takeValue cX10_takeValue 8 (Option.some Jvm.ClassFile.FieldType.boolean) 2 [.ref this, .int p0, .int p1, .int p2, .int p3] f sz (roI (.inl r.1) r.2 sz) := by
  unfold DX10_takeValue at h
  obtain ⟨_, hck, h⟩ := ob_some h
  refine mt_of (by decide) (Nat.le_of_ble_eq_true rfl) (?_ : V l g (fun _ => True) (RX10, cX10_takeValue, 8, (Option.some Jvm.ClassFile.FieldType.boolean), [], "takeValue") 2 (roI (.inl r.1) r.2 sz) 0 [(0, .ref this), (1, .int p0), (2, .int p1), (3, .int p2), (4, .int p3)] [] f sz 0 0)
  refine v_aload_n dX10_takeValue_0 rfl rfl ?_
  refine v_iload_n dX10_takeValue_1 rfl rfl ?_
  obtain ⟨x1, hx2, h⟩ := ob_some h
  have ehx2 := tX10_isSigned (l := l) (g := g) (sz := sz) N this p0 f hx2
  refine v_cVI dX10_takeValue_2 ml_X10_140 ok_X10_isSigned ehx2 (kX10_isSigned N this p0 f hx2) rfl (by decide) rfl (rest := []) rfl (Nat.le_of_ble_eq_true rfl) ?_
  refine v_if_eq (tgt := 135) dX10_takeValue_5 (by decide) (fun c75 => ?_) (fun c75 => ?_)
  · replace h := ip_ c75 h
    refine v_aload_n dX10_takeValue_135 rfl rfl ?_
    obtain ⟨x3, hx3, h⟩ := ob_some h
    refine v_getR dX10_takeValue_136 fl_X10_7 hx3 ?_
    refine v_iload_n dX10_takeValue_139 rfl rfl ?_
    obtain ⟨x4, hx4, h⟩ := ob_some h
    refine v_iald dX10_takeValue_140 hx4 ?_
    refine v_iconst (v := 2) dX10_takeValue_141 (by decide) ?_
    refine v_icmp_ne (tgt := 210) dX10_takeValue_142 (by decide) (fun c53 => ?_) (fun c53 => ?_)
    · replace h := in_ c53 h
      refine v_iload_n dX10_takeValue_210 rfl rfl ?_
      refine v_iload_n dX10_takeValue_211 rfl rfl ?_
      refine v_icmp_ne (tgt := 260) dX10_takeValue_212 (by decide) (fun c39 => ?_) (fun c39 => ?_)
      · replace h := in_ c39 h
        refine v_iconst (v := 0) dX10_takeValue_260 (by decide) ?_
        refine v_istore (ls1 := [(5, .int (0 : Int32)), (0, .ref this), (1, .int p0), (2, .int p1), (3, .int p2), (4, .int p3)]) dX10_takeValue_261 (by decide) rfl ?_
        exact v_sub (vs_c rfl (vs_c rfl (vs_c rfl (vs_c rfl (vs_c rfl (vs_c rfl vs_n)))))) (tX10_takeValue_263 N N this p0 p1 p2 p3 (0 : Int32) f h)
      · replace h := ip_ c39 h
        refine v_iload dX10_takeValue_215 rfl ?_
        refine v_if_ne (tgt := 229) dX10_takeValue_217 (by decide) (fun c38 => ?_) (fun c38 => ?_)
        · replace h := in_ c38 h
          exact v_sub (vs_c rfl (vs_c rfl (vs_c rfl vs_n))) (tX10_takeValue_229 N this p0 p3 f h)
        · replace h := ip_ c38 h
          refine v_aload_n dX10_takeValue_220 rfl rfl ?_
          refine v_iload_n dX10_takeValue_221 rfl rfl ?_
          refine v_iconst (v := -1) dX10_takeValue_222 (by decide) ?_
          obtain ⟨x35, hx36, h⟩ := ob_some h
          have ehx36 := tX10_mayPick (l := l) (g := g) (sz := sz) N this p0 (-1 : Int32) f hx36
          refine v_cVI dX10_takeValue_223 ml_X10_149 ok_X10_mayPick ehx36 (kX10_mayPick N this p0 (-1 : Int32) f hx36) rfl (by decide) rfl (rest := []) rfl (Nat.le_of_ble_eq_true rfl) ?_
          refine v_if_eq (tgt := 233) dX10_takeValue_226 (by decide) (fun c37 => ?_) (fun c37 => ?_)
          · replace h := ip_ c37 h
            refine v_iconst (v := 0) dX10_takeValue_233 (by decide) ?_
            exact v_sub (vs_c rfl (vs_c rfl (vs_c rfl vs_n))) (tX10_takeValue_234 N this p0 p3 (0 : Int32) f h)
          · replace h := in_ c37 h
            exact v_sub (vs_c rfl (vs_c rfl (vs_c rfl vs_n))) (tX10_takeValue_229 N this p0 p3 f h)
    · replace h := ip_ c53 h
      refine v_iload_n dX10_takeValue_145 rfl rfl ?_
      refine v_iload_n dX10_takeValue_146 rfl rfl ?_
      refine v_isub dX10_takeValue_147 ?_
      refine v_iconst (v := 1) dX10_takeValue_148 (by decide) ?_
      refine v_icmp_ne (tgt := 175) dX10_takeValue_149 (by decide) (fun c52 => ?_) (fun c52 => ?_)
      · replace h := in_ c52 h
        exact v_sub (vs_c rfl (vs_c rfl (vs_c rfl (vs_c rfl vs_n)))) (tX10_takeValue_175 N this p0 p1 p3 f h)
      · replace h := ip_ c52 h
        refine v_aload_n dX10_takeValue_152 rfl rfl ?_
        obtain ⟨x47, hx47, h⟩ := ob_some h
        refine v_getR dX10_takeValue_153 fl_X10_99 hx47 ?_
        refine v_iload_n dX10_takeValue_156 rfl rfl ?_
        obtain ⟨x48, hx48, h⟩ := ob_some h
        refine v_iald dX10_takeValue_157 hx48 ?_
        refine v_i2l dX10_takeValue_158 ?_
        refine v_ldc2 dX10_takeValue_159 kc_X10_172 ?_
        refine v_ldc2 dX10_takeValue_162 kc_X10_302 ?_
        obtain ⟨x49, hx50, h⟩ := ob_some h
        have ehx50 := tX10_isIn (l := l) (g := g) (sz := sz) N (x48.toInt64) (48 : Int64) (49 : Int64) f hx50
        refine v_cSI dX10_takeValue_165 ml_X10_115 ok_X10_isIn ehx50 (by decide) rfl (rest := []) rfl (Nat.le_of_ble_eq_true rfl) ?_
        refine v_if_eq (tgt := 175) dX10_takeValue_168 (by decide) (fun c51 => ?_) (fun c51 => ?_)
        · replace h := ip_ c51 h
          exact v_sub (vs_c rfl (vs_c rfl (vs_c rfl (vs_c rfl vs_n)))) (tX10_takeValue_175 N this p0 p1 p3 f h)
        · replace h := in_ c51 h
          refine v_iconst (v := 1) dX10_takeValue_171 (by decide) ?_
          refine v_goto (tgt := 176) dX10_takeValue_172 (by decide) ?_
          exact v_sub (vs_c rfl (vs_c rfl (vs_c rfl (vs_c rfl vs_n)))) (tX10_takeValue_176 N this p0 p1 p3 (1 : Int32) f h)
  · replace h := in_ c75 h
    refine v_iload_n dX10_takeValue_8 rfl rfl ?_
    refine v_iload_n dX10_takeValue_9 rfl rfl ?_
    refine v_isub dX10_takeValue_10 ?_
    refine v_aload_n dX10_takeValue_11 rfl rfl ?_
    refine v_iload_n dX10_takeValue_12 rfl rfl ?_
    obtain ⟨x54, hx55, h⟩ := ob_some h
    have ehx55 := tX10_most (l := l) (g := g) (sz := sz) N this p0 f hx55
    refine v_cVI dX10_takeValue_13 ml_X10_152 ok_X10_most ehx55 (kX10_most N this p0 f hx55) rfl (by decide) rfl (rest := [.int (p2 - p1)]) rfl (Nat.le_of_ble_eq_true rfl) ?_
    refine v_icmp_gt (tgt := 23) dX10_takeValue_16 (by decide) (fun c74 => ?_) (fun c74 => ?_)
    · replace h := ip_ c74 h
      refine v_iconst (v := 0) dX10_takeValue_23 (by decide) ?_
      exact v_sub (vs_c rfl (vs_c rfl (vs_c rfl (vs_c rfl (vs_c rfl vs_n))))) (tX10_takeValue_24 N this p0 p1 p2 p3 (0 : Int32) f h)
    · replace h := in_ c74 h
      refine v_iconst (v := 1) dX10_takeValue_19 (by decide) ?_
      refine v_goto (tgt := 24) dX10_takeValue_20 (by decide) ?_
      exact v_sub (vs_c rfl (vs_c rfl (vs_c rfl (vs_c rfl (vs_c rfl vs_n))))) (tX10_takeValue_24 N this p0 p1 p2 p3 (1 : Int32) f h)

/-! X10 takeLine (W) -/
def DX10_takeLine_62 (N : Nat) (k3 : Nat → Int32 → Int32 → Int32 → Int32 → HF → Option (Int32 × HF)) (v0 : Nat) (v1 : Int32) (v2 : Int32) (v3 : Int32) (v4 : Int32) (f : HF) : Option (Int32 × HF) :=
    k3 v0 v1 v2 v3 (v4 + 1) f

def DX10_takeLine_3 (N : Nat)  (n : Nat) (v0 : Nat) (v1 : Int32) (v2 : Int32) (v3 : Int32) (v4 : Int32) (f : HF) : Option (Int32 × HF) :=
  match n with
  | 0 => none
  | n + 1 =>
    (gI f v0 9 1).bind fun x1 =>
    if x1 ≤ v4 then
      some ((0 : Int32), f)
    else
      (DX10_isMaster N v0 v4 f).bind fun x2 =>
      if x2 = 0 then
        DX10_takeLine_62 N (DX10_takeLine_3 N n) v0 v1 v2 v3 v4 f
      else
        (gR f v0 9 22).bind fun x4 =>
        (aI f x4 2 v4).bind fun x5 =>
        if x5 = 0 then
          bW (DX10_behindName N v0 v1 v4 f) fun x6 f8 =>
          if x6 < 0 then
            DX10_takeLine_62 N (DX10_takeLine_3 N n) v0 v1 v2 v3 v4 f8
          else
            if v2 < x6 then
              DX10_takeLine_62 N (DX10_takeLine_3 N n) v0 v1 v2 v3 v4 f8
            else
              bW (DX10_takeValue N v0 v4 x6 v2 v3 f8) fun x9 f11 =>
              if x9 = 0 ∨ x9 = 1 then some (x9, f11) else none
        else
          DX10_takeLine_62 N (DX10_takeLine_3 N n) v0 v1 v2 v3 v4 f

def DX10_takeLine (N : Nat) (this : Nat) (p0 : Int32) (p1 : Int32) (p2 : Int32) (f : HF) : Option (Int32 × HF) :=
  (ck f this 9).bind fun _ =>
  DX10_takeLine_3 N N this p0 p1 p2 (0 : Int32) f

set_option maxRecDepth 20000 in
theorem tX10_takeLine_62 {l : Launch} {g : GT} {sz : Option Nat} (N : Nat) (k3 : Nat → Int32 → Int32 → Int32 → Int32 → HF → Option (Int32 × HF)) {r : (Int32 × HF)} (hk3 : ∀ (w0 : Nat) (w1 : Int32) (w2 : Int32) (w3 : Int32) (w4 : Int32) (f : HF), k3 w0 w1 w2 w3 w4 f = some r → V l g (fun _ => True) (RX10, cX10_takeLine, 6, (Option.some Jvm.ClassFile.FieldType.boolean), [], "takeLine") 3 (roI (.inl r.1) r.2 sz) 3 [(0, .ref w0), (1, .int w1), (2, .int w2), (3, .int w3), (4, .int w4)] [] f sz 0 0) : ∀ (v0 : Nat) (v1 : Int32) (v2 : Int32) (v3 : Int32) (v4 : Int32) (f : HF), DX10_takeLine_62 N k3 v0 v1 v2 v3 v4 f = some r → V l g (fun _ => True) (RX10, cX10_takeLine, 6, (Option.some Jvm.ClassFile.FieldType.boolean), [], "takeLine") 3 (roI (.inl r.1) r.2 sz) 62 [(0, .ref v0), (1, .int v1), (2, .int v2), (3, .int v3), (4, .int v4)] [] f sz 0 0 := by
  intro v0 v1 v2 v3 v4 f h
  unfold DX10_takeLine_62 at h
  refine v_iinc (v := (v4 + 1)) (ls1 := [(4, .int (v4 + 1)), (0, .ref v0), (1, .int v1), (2, .int v2), (3, .int v3)]) dX10_takeLine_62 rfl rfl (by decide) rfl ?_
  refine v_goto (tgt := 3) dX10_takeLine_65 (by decide) ?_
  exact v_sub (vs_c rfl (vs_c rfl (vs_c rfl (vs_c rfl (vs_c rfl vs_n))))) (hk3 v0 v1 v2 v3 (v4 + 1) f h)

set_option maxRecDepth 20000 in
theorem tX10_takeLine_3 {l : Launch} {g : GT} {sz : Option Nat} (N : Nat)  {r : (Int32 × HF)} : ∀ (n : Nat), ∀ (v0 : Nat) (v1 : Int32) (v2 : Int32) (v3 : Int32) (v4 : Int32) (f : HF), DX10_takeLine_3 N n v0 v1 v2 v3 v4 f = some r → V l g (fun _ => True) (RX10, cX10_takeLine, 6, (Option.some Jvm.ClassFile.FieldType.boolean), [], "takeLine") 3 (roI (.inl r.1) r.2 sz) 3 [(0, .ref v0), (1, .int v1), (2, .int v2), (3, .int v3), (4, .int v4)] [] f sz 0 0 := by
  intro n
  induction n with
  | zero => intro v0 v1 v2 v3 v4 f h; cases h
  | succ n ih =>
    intro v0 v1 v2 v3 v4 f h
    rw [DX10_takeLine_3] at h
    refine v_iload dX10_takeLine_3 rfl ?_
    refine v_aload_n dX10_takeLine_5 rfl rfl ?_
    obtain ⟨x1, hx1, h⟩ := ob_some h
    refine v_getI dX10_takeLine_6 fl_X10_106 hx1 ?_
    refine v_icmp_ge (tgt := 68) dX10_takeLine_9 (by decide) (fun c16 => ?_) (fun c16 => ?_)
    · replace h := ip_ c16 h
      refine v_iconst (v := 0) dX10_takeLine_68 (by decide) ?_
      obtain rfl := Option.some.inj h
      exact v_zret dX10_takeLine_69 rfl (Or.inl rfl) rfl
    · replace h := in_ c16 h
      refine v_aload_n dX10_takeLine_12 rfl rfl ?_
      refine v_iload dX10_takeLine_13 rfl ?_
      obtain ⟨x2, hx3, h⟩ := ob_some h
      have ehx3 := tX10_isMaster (l := l) (g := g) (sz := sz) N v0 v4 f hx3
      refine v_cVI dX10_takeLine_15 ml_X10_287 ok_X10_isMaster ehx3 (kX10_isMaster N v0 v4 f hx3) rfl (by decide) rfl (rest := []) rfl (Nat.le_of_ble_eq_true rfl) ?_
      refine v_if_eq (tgt := 62) dX10_takeLine_18 (by decide) (fun c15 => ?_) (fun c15 => ?_)
      · replace h := ip_ c15 h
        exact v_sub (vs_c rfl (vs_c rfl (vs_c rfl (vs_c rfl (vs_c rfl vs_n))))) (tX10_takeLine_62 N (DX10_takeLine_3 N n) ih v0 v1 v2 v3 v4 f h)
      · replace h := in_ c15 h
        refine v_aload_n dX10_takeLine_21 rfl rfl ?_
        obtain ⟨x4, hx4, h⟩ := ob_some h
        refine v_getR dX10_takeLine_22 fl_X10_72 hx4 ?_
        refine v_iload dX10_takeLine_25 rfl ?_
        obtain ⟨x5, hx5, h⟩ := ob_some h
        refine v_zald dX10_takeLine_27 hx5 ?_
        refine v_if_ne (tgt := 62) dX10_takeLine_28 (by decide) (fun c14 => ?_) (fun c14 => ?_)
        · replace h := in_ c14 h
          exact v_sub (vs_c rfl (vs_c rfl (vs_c rfl (vs_c rfl (vs_c rfl vs_n))))) (tX10_takeLine_62 N (DX10_takeLine_3 N n) ih v0 v1 v2 v3 v4 f h)
        · replace h := ip_ c14 h
          refine v_aload_n dX10_takeLine_31 rfl rfl ?_
          refine v_iload_n dX10_takeLine_32 rfl rfl ?_
          refine v_iload dX10_takeLine_33 rfl ?_
          obtain ⟨x6, f8, hx7, h⟩ := bW_some h
          have ehx7 := tX10_behindName (l := l) (g := g) (sz := sz) N v0 v1 v4 f hx7
          refine v_cVI dX10_takeLine_35 ml_X10_304 ok_X10_behindName ehx7 (kX10_behindName N v0 v1 v4 f hx7) rfl (by decide) rfl (rest := []) rfl (Nat.le_of_ble_eq_true rfl) ?_
          refine v_istore (ls1 := [(5, .int x6), (0, .ref v0), (1, .int v1), (2, .int v2), (3, .int v3), (4, .int v4)]) dX10_takeLine_38 (by decide) rfl ?_
          refine v_iload dX10_takeLine_40 rfl ?_
          refine v_if_lt (tgt := 62) dX10_takeLine_42 (by decide) (fun c13 => ?_) (fun c13 => ?_)
          · replace h := ip_ c13 h
            exact v_sub (vs_c rfl (vs_c rfl (vs_c rfl (vs_c rfl (vs_c rfl vs_n))))) (tX10_takeLine_62 N (DX10_takeLine_3 N n) ih v0 v1 v2 v3 v4 f8 h)
          · replace h := in_ c13 h
            refine v_iload dX10_takeLine_45 rfl ?_
            refine v_iload_n dX10_takeLine_47 rfl rfl ?_
            refine v_icmp_gt (tgt := 62) dX10_takeLine_48 (by decide) (fun c12 => ?_) (fun c12 => ?_)
            · replace h := ip_ c12 h
              exact v_sub (vs_c rfl (vs_c rfl (vs_c rfl (vs_c rfl (vs_c rfl vs_n))))) (tX10_takeLine_62 N (DX10_takeLine_3 N n) ih v0 v1 v2 v3 v4 f8 h)
            · replace h := in_ c12 h
              refine v_aload_n dX10_takeLine_51 rfl rfl ?_
              refine v_iload dX10_takeLine_52 rfl ?_
              refine v_iload dX10_takeLine_54 rfl ?_
              refine v_iload_n dX10_takeLine_56 rfl rfl ?_
              refine v_iload_n dX10_takeLine_57 rfl rfl ?_
              obtain ⟨x9, f11, hx10, h⟩ := bW_some h
              have ehx10 := tX10_takeValue (l := l) (g := g) (sz := sz) N v0 v4 x6 v2 v3 f8 hx10
              refine v_cVI dX10_takeLine_58 ml_X10_307 ok_X10_takeValue ehx10 (kX10_takeValue N v0 v4 x6 v2 v3 f8 hx10) rfl (by decide) rfl (rest := []) rfl (Nat.le_of_ble_eq_true rfl) ?_
              obtain ⟨hB, h⟩ := if_some h
              obtain rfl := Option.some.inj h
              exact v_zret dX10_takeLine_61 rfl hB rfl

set_option maxRecDepth 20000 in
theorem kX10_takeLine (N : Nat) (this : Nat) (p0 : Int32) (p1 : Int32) (p2 : Int32) (f : HF) {r : (Int32 × HF)} (h : DX10_takeLine N this p0 p1 p2 f = some r) : ck f this 9 = some () := by
  unfold DX10_takeLine at h
  obtain ⟨_, hck, _⟩ := ob_some h
  exact hck

set_option maxRecDepth 20000 in
theorem tX10_takeLine {l : Launch} {g : GT} {sz : Option Nat} (N : Nat) (this : Nat) (p0 : Int32) (p1 : Int32) (p2 : Int32) (f : HF) {r : (Int32 × HF)} (h : DX10_takeLine N this p0 p1 p2 f = some r) : Mt l g yX10_takeLine cX10_takeLine 6 (Option.some Jvm.ClassFile.FieldType.boolean) 3 [.ref this, .int p0, .int p1, .int p2] f sz (roI (.inl r.1) r.2 sz) := by
  unfold DX10_takeLine at h
  obtain ⟨_, hck, h⟩ := ob_some h
  refine mt_of (by decide) (Nat.le_of_ble_eq_true rfl) (?_ : V l g (fun _ => True) (RX10, cX10_takeLine, 6, (Option.some Jvm.ClassFile.FieldType.boolean), [], "takeLine") 3 (roI (.inl r.1) r.2 sz) 0 [(0, .ref this), (1, .int p0), (2, .int p1), (3, .int p2)] [] f sz 0 0)
  refine v_iconst (v := 0) dX10_takeLine_0 (by decide) ?_
  refine v_istore (ls1 := [(4, .int (0 : Int32)), (0, .ref this), (1, .int p0), (2, .int p1), (3, .int p2)]) dX10_takeLine_1 (by decide) rfl ?_
  exact v_sub (vs_c rfl (vs_c rfl (vs_c rfl (vs_c rfl (vs_c rfl vs_n))))) (tX10_takeLine_3 N N this p0 p1 p2 (0 : Int32) f h)

/-! X10 goOver (W) -/
def DX10_goOver_98 (N : Nat)  (v2 : Int32) (v4 : Int32) (f : HF) : Option (Int32 × HF) :=
    if v4 = 0 then
      some (((-1 : Int32) - v2), f)
    else
      some (v2, f)

def DX10_goOver_89 (N : Nat) (k7 : Nat → Int32 → Int32 → Int32 → Int32 → HF → Option (Int32 × HF)) (v0 : Nat) (v1 : Int32) (v4 : Int32) (v5 : Int32) (s0 : Int32) (f : HF) : Option (Int32 × HF) :=
    k7 v0 v1 s0 (v5 + (1 : Int32)) v4 f

def DX10_goOver_75 (N : Nat) (k7 : Nat → Int32 → Int32 → Int32 → Int32 → HF → Option (Int32 × HF)) (v0 : Nat) (v1 : Int32) (v2 : Int32) (v5 : Int32) (s0 : Int32) (f : HF) : Option (Int32 × HF) :=
    if s0 = 0 then
      DX10_goOver_89 N k7 v0 v1 s0 v5 v2 f
    else
      DX10_goOver_89 N k7 v0 v1 s0 v5 (v2 + (1 : Int32)) f

def DX10_goOver_74 (N : Nat) (k7 : Nat → Int32 → Int32 → Int32 → Int32 → HF → Option (Int32 × HF)) (v0 : Nat) (v1 : Int32) (v2 : Int32) (v5 : Int32) (f : HF) : Option (Int32 × HF) :=
    DX10_goOver_75 N k7 v0 v1 v2 v5 (0 : Int32) f

def DX10_goOver_50 (N : Nat) (k7 : Nat → Int32 → Int32 → Int32 → Int32 → HF → Option (Int32 × HF)) (v0 : Nat) (v1 : Int32) (v2 : Int32) (v3 : Int32) (v5 : Int32) (f : HF) : Option (Int32 × HF) :=
    (gI f v0 9 37).bind fun x4 =>
    if x4 ≤ v5 then
      DX10_goOver_74 N k7 v0 v1 v2 v5 f
    else
      bW (DX10_takeLine N v0 v3 v5 v1 f) fun x6 f8 =>
      if x6 = 0 then
        DX10_goOver_74 N k7 v0 v1 v2 v5 f8
      else
        DX10_goOver_75 N k7 v0 v1 v2 v5 (1 : Int32) f8

def DX10_goOver_23 (N : Nat) (k7 : Nat → Int32 → Int32 → Int32 → Int32 → HF → Option (Int32 × HF)) (n : Nat) (v0 : Nat) (v1 : Int32) (v2 : Int32) (v3 : Int32) (v5 : Int32) (f : HF) : Option (Int32 × HF) :=
  match n with
  | 0 => none
  | n + 1 =>
    (gI f v0 9 37).bind fun x3 =>
    if x3 ≤ v5 then
      DX10_goOver_50 N k7 v0 v1 v2 v3 v5 f
    else
      (gR f v0 9 36).bind fun x11 =>
      (aI f x11 0 v5).bind fun x12 =>
      if x12 = (10 : Int32) then
        DX10_goOver_50 N k7 v0 v1 v2 v3 v5 f
      else
        DX10_goOver_23 N k7 n v0 v1 v2 v3 (v5 + 1) f

def DX10_goOver_7 (N : Nat)  (n : Nat) (v0 : Nat) (v1 : Int32) (v2 : Int32) (v3 : Int32) (v4 : Int32) (f : HF) : Option (Int32 × HF) :=
  match n with
  | 0 => none
  | n + 1 =>
    (gI f v0 9 37).bind fun x1 =>
    if x1 ≤ v3 then
      DX10_goOver_98 N v2 v4 f
    else
      if v4 = 0 then
        DX10_goOver_98 N v2 v4 f
      else
        DX10_goOver_23 N (DX10_goOver_7 N n) N v0 v1 v2 v3 v3 f

def DX10_goOver (N : Nat) (this : Nat) (p0 : Int32) (f : HF) : Option (Int32 × HF) :=
  (ck f this 9).bind fun _ =>
  DX10_goOver_7 N N this p0 (0 : Int32) (0 : Int32) (1 : Int32) f

set_option maxRecDepth 20000 in
theorem tX10_goOver_98 {l : Launch} {g : GT} {sz : Option Nat} (N : Nat)  {r : (Int32 × HF)} : ∀ (v2 : Int32) (v4 : Int32) (f : HF), DX10_goOver_98 N v2 v4 f = some r → V l g (fun _ => True) (RX10, cX10_goOver, 6, (Option.some Jvm.ClassFile.FieldType.int), [], "goOver") 4 (roI (.inl r.1) r.2 sz) 98 [(2, .int v2), (4, .int v4)] [] f sz 0 0 := by
  intro v2 v4 f h
  unfold DX10_goOver_98 at h
  refine v_iload dX10_goOver_98 rfl ?_
  refine v_if_eq (tgt := 107) dX10_goOver_100 (by decide) (fun c2 => ?_) (fun c2 => ?_)
  · replace h := ip_ c2 h
    refine v_iconst (v := -1) dX10_goOver_107 (by decide) ?_
    refine v_iload_n dX10_goOver_108 rfl rfl ?_
    refine v_isub dX10_goOver_109 ?_
    obtain rfl := Option.some.inj h
    exact v_iret dX10_goOver_110 rfl rfl
  · replace h := in_ c2 h
    refine v_iload_n dX10_goOver_103 rfl rfl ?_
    refine v_goto (tgt := 110) dX10_goOver_104 (by decide) ?_
    obtain rfl := Option.some.inj h
    exact v_iret dX10_goOver_110 rfl rfl

set_option maxRecDepth 20000 in
theorem tX10_goOver_89 {l : Launch} {g : GT} {sz : Option Nat} (N : Nat) (k7 : Nat → Int32 → Int32 → Int32 → Int32 → HF → Option (Int32 × HF)) {r : (Int32 × HF)} (hk7 : ∀ (w0 : Nat) (w1 : Int32) (w2 : Int32) (w3 : Int32) (w4 : Int32) (f : HF), k7 w0 w1 w2 w3 w4 f = some r → V l g (fun _ => True) (RX10, cX10_goOver, 6, (Option.some Jvm.ClassFile.FieldType.int), [], "goOver") 4 (roI (.inl r.1) r.2 sz) 7 [(0, .ref w0), (1, .int w1), (2, .int w2), (3, .int w3), (4, .int w4)] [] f sz 0 0) : ∀ (v0 : Nat) (v1 : Int32) (v4 : Int32) (v5 : Int32) (s0 : Int32) (f : HF), DX10_goOver_89 N k7 v0 v1 v4 v5 s0 f = some r → V l g (fun _ => True) (RX10, cX10_goOver, 6, (Option.some Jvm.ClassFile.FieldType.int), [], "goOver") 4 (roI (.inl r.1) r.2 sz) 89 [(0, .ref v0), (1, .int v1), (4, .int v4), (5, .int v5)] [.int s0] f sz 0 0 := by
  intro v0 v1 v4 v5 s0 f h
  unfold DX10_goOver_89 at h
  refine v_istore_n (ls1 := [(2, .int s0), (0, .ref v0), (1, .int v1), (4, .int v4), (5, .int v5)]) dX10_goOver_89 rfl (by decide) rfl ?_
  refine v_iload dX10_goOver_90 rfl ?_
  refine v_iconst (v := 1) dX10_goOver_92 (by decide) ?_
  refine v_iadd dX10_goOver_93 ?_
  refine v_istore_n (ls1 := [(3, .int (v5 + (1 : Int32))), (2, .int s0), (0, .ref v0), (1, .int v1), (4, .int v4), (5, .int v5)]) dX10_goOver_94 rfl (by decide) rfl ?_
  refine v_goto (tgt := 7) dX10_goOver_95 (by decide) ?_
  exact v_sub (vs_c rfl (vs_c rfl (vs_c rfl (vs_c rfl (vs_c rfl vs_n))))) (hk7 v0 v1 s0 (v5 + (1 : Int32)) v4 f h)

set_option maxRecDepth 20000 in
theorem tX10_goOver_75 {l : Launch} {g : GT} {sz : Option Nat} (N : Nat) (k7 : Nat → Int32 → Int32 → Int32 → Int32 → HF → Option (Int32 × HF)) {r : (Int32 × HF)} (hk7 : ∀ (w0 : Nat) (w1 : Int32) (w2 : Int32) (w3 : Int32) (w4 : Int32) (f : HF), k7 w0 w1 w2 w3 w4 f = some r → V l g (fun _ => True) (RX10, cX10_goOver, 6, (Option.some Jvm.ClassFile.FieldType.int), [], "goOver") 4 (roI (.inl r.1) r.2 sz) 7 [(0, .ref w0), (1, .int w1), (2, .int w2), (3, .int w3), (4, .int w4)] [] f sz 0 0) : ∀ (v0 : Nat) (v1 : Int32) (v2 : Int32) (v5 : Int32) (s0 : Int32) (f : HF), DX10_goOver_75 N k7 v0 v1 v2 v5 s0 f = some r → V l g (fun _ => True) (RX10, cX10_goOver, 6, (Option.some Jvm.ClassFile.FieldType.int), [], "goOver") 4 (roI (.inl r.1) r.2 sz) 75 [(0, .ref v0), (1, .int v1), (2, .int v2), (5, .int v5)] [.int s0] f sz 0 0 := by
  intro v0 v1 v2 v5 s0 f h
  unfold DX10_goOver_75 at h
  refine v_istore (ls1 := [(4, .int s0), (0, .ref v0), (1, .int v1), (2, .int v2), (5, .int v5)]) dX10_goOver_75 (by decide) rfl ?_
  refine v_iload dX10_goOver_77 rfl ?_
  refine v_if_eq (tgt := 88) dX10_goOver_79 (by decide) (fun c5 => ?_) (fun c5 => ?_)
  · replace h := ip_ c5 h
    refine v_iload_n dX10_goOver_88 rfl rfl ?_
    exact v_sub (vs_c rfl (vs_c rfl (vs_c rfl (vs_c rfl vs_n)))) (tX10_goOver_89 N k7 hk7 v0 v1 s0 v5 v2 f h)
  · replace h := in_ c5 h
    refine v_iload_n dX10_goOver_82 rfl rfl ?_
    refine v_iconst (v := 1) dX10_goOver_83 (by decide) ?_
    refine v_iadd dX10_goOver_84 ?_
    refine v_goto (tgt := 89) dX10_goOver_85 (by decide) ?_
    exact v_sub (vs_c rfl (vs_c rfl (vs_c rfl (vs_c rfl vs_n)))) (tX10_goOver_89 N k7 hk7 v0 v1 s0 v5 (v2 + (1 : Int32)) f h)

set_option maxRecDepth 20000 in
theorem tX10_goOver_74 {l : Launch} {g : GT} {sz : Option Nat} (N : Nat) (k7 : Nat → Int32 → Int32 → Int32 → Int32 → HF → Option (Int32 × HF)) {r : (Int32 × HF)} (hk7 : ∀ (w0 : Nat) (w1 : Int32) (w2 : Int32) (w3 : Int32) (w4 : Int32) (f : HF), k7 w0 w1 w2 w3 w4 f = some r → V l g (fun _ => True) (RX10, cX10_goOver, 6, (Option.some Jvm.ClassFile.FieldType.int), [], "goOver") 4 (roI (.inl r.1) r.2 sz) 7 [(0, .ref w0), (1, .int w1), (2, .int w2), (3, .int w3), (4, .int w4)] [] f sz 0 0) : ∀ (v0 : Nat) (v1 : Int32) (v2 : Int32) (v5 : Int32) (f : HF), DX10_goOver_74 N k7 v0 v1 v2 v5 f = some r → V l g (fun _ => True) (RX10, cX10_goOver, 6, (Option.some Jvm.ClassFile.FieldType.int), [], "goOver") 4 (roI (.inl r.1) r.2 sz) 74 [(0, .ref v0), (1, .int v1), (2, .int v2), (5, .int v5)] [] f sz 0 0 := by
  intro v0 v1 v2 v5 f h
  unfold DX10_goOver_74 at h
  refine v_iconst (v := 0) dX10_goOver_74 (by decide) ?_
  exact v_sub (vs_c rfl (vs_c rfl (vs_c rfl (vs_c rfl vs_n)))) (tX10_goOver_75 N k7 hk7 v0 v1 v2 v5 (0 : Int32) f h)

set_option maxRecDepth 20000 in
theorem tX10_goOver_50 {l : Launch} {g : GT} {sz : Option Nat} (N : Nat) (k7 : Nat → Int32 → Int32 → Int32 → Int32 → HF → Option (Int32 × HF)) {r : (Int32 × HF)} (hk7 : ∀ (w0 : Nat) (w1 : Int32) (w2 : Int32) (w3 : Int32) (w4 : Int32) (f : HF), k7 w0 w1 w2 w3 w4 f = some r → V l g (fun _ => True) (RX10, cX10_goOver, 6, (Option.some Jvm.ClassFile.FieldType.int), [], "goOver") 4 (roI (.inl r.1) r.2 sz) 7 [(0, .ref w0), (1, .int w1), (2, .int w2), (3, .int w3), (4, .int w4)] [] f sz 0 0) : ∀ (v0 : Nat) (v1 : Int32) (v2 : Int32) (v3 : Int32) (v5 : Int32) (f : HF), DX10_goOver_50 N k7 v0 v1 v2 v3 v5 f = some r → V l g (fun _ => True) (RX10, cX10_goOver, 6, (Option.some Jvm.ClassFile.FieldType.int), [], "goOver") 4 (roI (.inl r.1) r.2 sz) 50 [(0, .ref v0), (1, .int v1), (2, .int v2), (3, .int v3), (5, .int v5)] [] f sz 0 0 := by
  intro v0 v1 v2 v3 v5 f h
  unfold DX10_goOver_50 at h
  refine v_iload dX10_goOver_50 rfl ?_
  refine v_aload_n dX10_goOver_52 rfl rfl ?_
  obtain ⟨x4, hx4, h⟩ := ob_some h
  refine v_getI dX10_goOver_53 fl_X10_299 hx4 ?_
  refine v_icmp_ge (tgt := 74) dX10_goOver_56 (by decide) (fun c10 => ?_) (fun c10 => ?_)
  · replace h := ip_ c10 h
    exact v_sub (vs_c rfl (vs_c rfl (vs_c rfl (vs_c rfl vs_n)))) (tX10_goOver_74 N k7 hk7 v0 v1 v2 v5 f h)
  · replace h := in_ c10 h
    refine v_aload_n dX10_goOver_59 rfl rfl ?_
    refine v_iload_n dX10_goOver_60 rfl rfl ?_
    refine v_iload dX10_goOver_61 rfl ?_
    refine v_iload_n dX10_goOver_63 rfl rfl ?_
    obtain ⟨x6, f8, hx7, h⟩ := bW_some h
    have ehx7 := tX10_takeLine (l := l) (g := g) (sz := sz) N v0 v3 v5 v1 f hx7
    refine v_cVI dX10_goOver_64 ml_X10_311 ok_X10_takeLine ehx7 (kX10_takeLine N v0 v3 v5 v1 f hx7) rfl (by decide) rfl (rest := []) rfl (Nat.le_of_ble_eq_true rfl) ?_
    refine v_if_eq (tgt := 74) dX10_goOver_67 (by decide) (fun c9 => ?_) (fun c9 => ?_)
    · replace h := ip_ c9 h
      exact v_sub (vs_c rfl (vs_c rfl (vs_c rfl (vs_c rfl vs_n)))) (tX10_goOver_74 N k7 hk7 v0 v1 v2 v5 f8 h)
    · replace h := in_ c9 h
      refine v_iconst (v := 1) dX10_goOver_70 (by decide) ?_
      refine v_goto (tgt := 75) dX10_goOver_71 (by decide) ?_
      exact v_sub (vs_c rfl (vs_c rfl (vs_c rfl (vs_c rfl vs_n)))) (tX10_goOver_75 N k7 hk7 v0 v1 v2 v5 (1 : Int32) f8 h)

set_option maxRecDepth 20000 in
theorem tX10_goOver_23 {l : Launch} {g : GT} {sz : Option Nat} (N : Nat) (k7 : Nat → Int32 → Int32 → Int32 → Int32 → HF → Option (Int32 × HF)) {r : (Int32 × HF)} (hk7 : ∀ (w0 : Nat) (w1 : Int32) (w2 : Int32) (w3 : Int32) (w4 : Int32) (f : HF), k7 w0 w1 w2 w3 w4 f = some r → V l g (fun _ => True) (RX10, cX10_goOver, 6, (Option.some Jvm.ClassFile.FieldType.int), [], "goOver") 4 (roI (.inl r.1) r.2 sz) 7 [(0, .ref w0), (1, .int w1), (2, .int w2), (3, .int w3), (4, .int w4)] [] f sz 0 0) : ∀ (n : Nat), ∀ (v0 : Nat) (v1 : Int32) (v2 : Int32) (v3 : Int32) (v5 : Int32) (f : HF), DX10_goOver_23 N k7 n v0 v1 v2 v3 v5 f = some r → V l g (fun _ => True) (RX10, cX10_goOver, 6, (Option.some Jvm.ClassFile.FieldType.int), [], "goOver") 4 (roI (.inl r.1) r.2 sz) 23 [(0, .ref v0), (1, .int v1), (2, .int v2), (3, .int v3), (5, .int v5)] [] f sz 0 0 := by
  intro n
  induction n with
  | zero => intro v0 v1 v2 v3 v5 f h; cases h
  | succ n ih =>
    intro v0 v1 v2 v3 v5 f h
    rw [DX10_goOver_23] at h
    refine v_iload dX10_goOver_23 rfl ?_
    refine v_aload_n dX10_goOver_25 rfl rfl ?_
    obtain ⟨x3, hx3, h⟩ := ob_some h
    refine v_getI dX10_goOver_26 fl_X10_299 hx3 ?_
    refine v_icmp_ge (tgt := 50) dX10_goOver_29 (by decide) (fun c14 => ?_) (fun c14 => ?_)
    · replace h := ip_ c14 h
      exact v_sub (vs_c rfl (vs_c rfl (vs_c rfl (vs_c rfl (vs_c rfl vs_n))))) (tX10_goOver_50 N k7 hk7 v0 v1 v2 v3 v5 f h)
    · replace h := in_ c14 h
      refine v_aload_n dX10_goOver_32 rfl rfl ?_
      obtain ⟨x11, hx11, h⟩ := ob_some h
      refine v_getR dX10_goOver_33 fl_X10_99 hx11 ?_
      refine v_iload dX10_goOver_36 rfl ?_
      obtain ⟨x12, hx12, h⟩ := ob_some h
      refine v_iald dX10_goOver_38 hx12 ?_
      refine v_bipush (v := 10) dX10_goOver_39 (by decide) ?_
      refine v_icmp_eq (tgt := 50) dX10_goOver_41 (by decide) (fun c13 => ?_) (fun c13 => ?_)
      · replace h := ip_ c13 h
        exact v_sub (vs_c rfl (vs_c rfl (vs_c rfl (vs_c rfl (vs_c rfl vs_n))))) (tX10_goOver_50 N k7 hk7 v0 v1 v2 v3 v5 f h)
      · replace h := in_ c13 h
        refine v_iinc (v := (v5 + 1)) (ls1 := [(5, .int (v5 + 1)), (0, .ref v0), (1, .int v1), (2, .int v2), (3, .int v3)]) dX10_goOver_44 rfl rfl (by decide) rfl ?_
        refine v_goto (tgt := 23) dX10_goOver_47 (by decide) ?_
        exact v_sub (vs_c rfl (vs_c rfl (vs_c rfl (vs_c rfl (vs_c rfl vs_n))))) (ih v0 v1 v2 v3 (v5 + 1) f h)

set_option maxRecDepth 20000 in
theorem tX10_goOver_7 {l : Launch} {g : GT} {sz : Option Nat} (N : Nat)  {r : (Int32 × HF)} : ∀ (n : Nat), ∀ (v0 : Nat) (v1 : Int32) (v2 : Int32) (v3 : Int32) (v4 : Int32) (f : HF), DX10_goOver_7 N n v0 v1 v2 v3 v4 f = some r → V l g (fun _ => True) (RX10, cX10_goOver, 6, (Option.some Jvm.ClassFile.FieldType.int), [], "goOver") 4 (roI (.inl r.1) r.2 sz) 7 [(0, .ref v0), (1, .int v1), (2, .int v2), (3, .int v3), (4, .int v4)] [] f sz 0 0 := by
  intro n
  induction n with
  | zero => intro v0 v1 v2 v3 v4 f h; cases h
  | succ n ih =>
    intro v0 v1 v2 v3 v4 f h
    rw [DX10_goOver_7] at h
    refine v_iload_n dX10_goOver_7 rfl rfl ?_
    refine v_aload_n dX10_goOver_8 rfl rfl ?_
    obtain ⟨x1, hx1, h⟩ := ob_some h
    refine v_getI dX10_goOver_9 fl_X10_299 hx1 ?_
    refine v_icmp_ge (tgt := 98) dX10_goOver_12 (by decide) (fun c16 => ?_) (fun c16 => ?_)
    · replace h := ip_ c16 h
      exact v_sub (vs_c rfl (vs_c rfl vs_n)) (tX10_goOver_98 N v2 v4 f h)
    · replace h := in_ c16 h
      refine v_iload dX10_goOver_15 rfl ?_
      refine v_if_eq (tgt := 98) dX10_goOver_17 (by decide) (fun c15 => ?_) (fun c15 => ?_)
      · replace h := ip_ c15 h
        exact v_sub (vs_c rfl (vs_c rfl vs_n)) (tX10_goOver_98 N v2 v4 f h)
      · replace h := in_ c15 h
        refine v_iload_n dX10_goOver_20 rfl rfl ?_
        refine v_istore (ls1 := [(5, .int v3), (0, .ref v0), (1, .int v1), (2, .int v2), (3, .int v3), (4, .int v4)]) dX10_goOver_21 (by decide) rfl ?_
        exact v_sub (vs_c rfl (vs_c rfl (vs_c rfl (vs_c rfl (vs_c rfl vs_n))))) (tX10_goOver_23 N (DX10_goOver_7 N n) ih N v0 v1 v2 v3 v3 f h)

set_option maxRecDepth 20000 in
theorem kX10_goOver (N : Nat) (this : Nat) (p0 : Int32) (f : HF) {r : (Int32 × HF)} (h : DX10_goOver N this p0 f = some r) : ck f this 9 = some () := by
  unfold DX10_goOver at h
  obtain ⟨_, hck, _⟩ := ob_some h
  exact hck

set_option maxRecDepth 20000 in
theorem tX10_goOver {l : Launch} {g : GT} {sz : Option Nat} (N : Nat) (this : Nat) (p0 : Int32) (f : HF) {r : (Int32 × HF)} (h : DX10_goOver N this p0 f = some r) : Mt l g yX10_goOver cX10_goOver 6 (Option.some Jvm.ClassFile.FieldType.int) 4 [.ref this, .int p0] f sz (roI (.inl r.1) r.2 sz) := by
  unfold DX10_goOver at h
  obtain ⟨_, hck, h⟩ := ob_some h
  refine mt_of (by decide) (Nat.le_of_ble_eq_true rfl) (?_ : V l g (fun _ => True) (RX10, cX10_goOver, 6, (Option.some Jvm.ClassFile.FieldType.int), [], "goOver") 4 (roI (.inl r.1) r.2 sz) 0 [(0, .ref this), (1, .int p0)] [] f sz 0 0)
  refine v_iconst (v := 0) dX10_goOver_0 (by decide) ?_
  refine v_istore_n (ls1 := [(2, .int (0 : Int32)), (0, .ref this), (1, .int p0)]) dX10_goOver_1 rfl (by decide) rfl ?_
  refine v_iconst (v := 0) dX10_goOver_2 (by decide) ?_
  refine v_istore_n (ls1 := [(3, .int (0 : Int32)), (2, .int (0 : Int32)), (0, .ref this), (1, .int p0)]) dX10_goOver_3 rfl (by decide) rfl ?_
  refine v_iconst (v := 1) dX10_goOver_4 (by decide) ?_
  refine v_istore (ls1 := [(4, .int (1 : Int32)), (3, .int (0 : Int32)), (2, .int (0 : Int32)), (0, .ref this), (1, .int p0)]) dX10_goOver_5 (by decide) rfl ?_
  exact v_sub (vs_c rfl (vs_c rfl (vs_c rfl (vs_c rfl (vs_c rfl vs_n))))) (tX10_goOver_7 N N this p0 (0 : Int32) (0 : Int32) (1 : Int32) f h)

