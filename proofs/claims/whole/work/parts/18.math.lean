/-! Math's six as plain steps -/
def mxI (x y : Int32) : Int32 := if x < y then y else x
def mnI (x y : Int32) : Int32 := if y < x then y else x
def abI (x : Int32) : Int32 := if 0 ≤ x then x else 0 - x
def mxL (x y : Int64) : Int64 := if y < x then x else y
def mnL (x y : Int64) : Int64 := if y < x then y else x
def abL (x : Int64) : Int64 := if 0 < x then x else -x
section RM
variable {l : Launch} {g : GT} {sc : State → Prop} {μ : MT} {d : Nat} {ρ : RT} {pc : Nat} {ls ls1 : List (Nat × Value)} {st rest : List Value} {f f1 : HF} {sz sz1 : Option Nat} {idx n : Nat}
theorem v_mmaxI {x y : Int32} (hd : decode μ.2.1 pc = .ok (.invokestatic idx, 3)) (ML : mlS μ.1 idx Lib.Math.max.name) (hm : mOk Lib.Math.max.name Lib.Math.max.code 2 (some .int) n) (h1 : 1 ≤ d) (hrm : (st.map fun v => v.category).sum ≤ 8) (k : V l g sc μ d ρ (pc + 3) ls (.int (mxI x y) :: st) f sz 0 0) : V l g sc μ d ρ pc ls (.int y :: .int x :: st) f sz 0 0 := by
  intro p e R s m args below meth c H locs LS C hw hS hl
  have kk := k p e R s m args below meth c H locs LS C hw hS hl
  obtain ⟨hx, hb, hml, hown, ok, -, -, -, -, -, -, -, -, q1, q2, -⟩ := C
  exact va_mmax hx hb (hml.trans hl.1.symm) hown (ok _ ML.1) (ok _ ML.2.1) (ok _ ML.2.2) (ok _ hm.1) (by omega) (by omega) (Nat.zero_le _) (Nat.zero_le _) hd kk
theorem v_mminI {x y : Int32} (hd : decode μ.2.1 pc = .ok (.invokestatic idx, 3)) (ML : mlS μ.1 idx Lib.Math.min.name) (hm : mOk Lib.Math.min.name Lib.Math.min.code 2 (some .int) n) (h1 : 1 ≤ d) (hrm : (st.map fun v => v.category).sum ≤ 8) (k : V l g sc μ d ρ (pc + 3) ls (.int (mnI x y) :: st) f sz 0 0) : V l g sc μ d ρ pc ls (.int y :: .int x :: st) f sz 0 0 := by
  intro p e R s m args below meth c H locs LS C hw hS hl
  have kk := k p e R s m args below meth c H locs LS C hw hS hl
  obtain ⟨hx, hb, hml, hown, ok, -, -, -, -, -, -, -, -, q1, q2, -⟩ := C
  exact va_mmin hx hb (hml.trans hl.1.symm) hown (ok _ ML.1) (ok _ ML.2.1) (ok _ ML.2.2) (ok _ hm.1) (by omega) (by omega) (Nat.zero_le _) (Nat.zero_le _) hd kk
theorem v_mabsI {x : Int32} (hd : decode μ.2.1 pc = .ok (.invokestatic idx, 3)) (ML : mlS μ.1 idx Lib.Math.abs.name) (hm : mOk Lib.Math.abs.name Lib.Math.abs.code 1 (some .int) n) (h1 : 1 ≤ d) (hrm : (st.map fun v => v.category).sum ≤ 8) (k : V l g sc μ d ρ (pc + 3) ls (.int (abI x) :: st) f sz 0 0) : V l g sc μ d ρ pc ls (.int x :: st) f sz 0 0 := by
  intro p e R s m args below meth c H locs LS C hw hS hl
  have kk := k p e R s m args below meth c H locs LS C hw hS hl
  obtain ⟨hx, hb, hml, hown, ok, -, -, -, -, -, -, -, -, q1, q2, -⟩ := C
  exact va_mabs hx hb (hml.trans hl.1.symm) hown (ok _ ML.1) (ok _ ML.2.1) (ok _ ML.2.2) (ok _ hm.1) (by omega) (by omega) (Nat.zero_le _) (Nat.zero_le _) hd kk
theorem v_mmaxL {x y : Int64} (hd : decode μ.2.1 pc = .ok (.invokestatic idx, 3)) (ML : mlS μ.1 idx Lib.MathLoose.max_long.x) (hm : mOk Lib.MathLoose.max_long.x Lib.MathLoose.max_long.code 4 (some .long) n) (h1 : 1 ≤ d) (hrm : (st.map fun v => v.category).sum ≤ 8) (k : V l g sc μ d ρ (pc + 3) ls (.long (mxL x y) :: st) f sz 0 0) : V l g sc μ d ρ pc ls (.long y :: .long x :: st) f sz 0 0 := by
  intro p e R s m args below meth c H locs LS C hw hS hl
  have kk := k p e R s m args below meth c H locs LS C hw hS hl
  obtain ⟨hx, hb, hml, hown, ok, -, -, -, -, -, -, -, -, q1, q2, -⟩ := C
  exact va_mmax_long hx hb (hml.trans hl.1.symm) hown (ok _ ML.1) (ok _ ML.2.1) (ok _ ML.2.2) (ok _ hm.1) (by omega) (by omega) (Nat.zero_le _) (Nat.zero_le _) hd kk
theorem v_mminL {x y : Int64} (hd : decode μ.2.1 pc = .ok (.invokestatic idx, 3)) (ML : mlS μ.1 idx Lib.MathLoose.min_long.x) (hm : mOk Lib.MathLoose.min_long.x Lib.MathLoose.min_long.code 4 (some .long) n) (h1 : 1 ≤ d) (hrm : (st.map fun v => v.category).sum ≤ 8) (k : V l g sc μ d ρ (pc + 3) ls (.long (mnL x y) :: st) f sz 0 0) : V l g sc μ d ρ pc ls (.long y :: .long x :: st) f sz 0 0 := by
  intro p e R s m args below meth c H locs LS C hw hS hl
  have kk := k p e R s m args below meth c H locs LS C hw hS hl
  obtain ⟨hx, hb, hml, hown, ok, -, -, -, -, -, -, -, -, q1, q2, -⟩ := C
  exact va_mmin_long hx hb (hml.trans hl.1.symm) hown (ok _ ML.1) (ok _ ML.2.1) (ok _ ML.2.2) (ok _ hm.1) (by omega) (by omega) (Nat.zero_le _) (Nat.zero_le _) hd kk
theorem v_mabsL {x : Int64} (hd : decode μ.2.1 pc = .ok (.invokestatic idx, 3)) (ML : mlS μ.1 idx Lib.MathLoose.abs_long.x) (hm : mOk Lib.MathLoose.abs_long.x Lib.MathLoose.abs_long.code 2 (some .long) n) (h1 : 1 ≤ d) (hrm : (st.map fun v => v.category).sum ≤ 8) (k : V l g sc μ d ρ (pc + 3) ls (.long (abL x) :: st) f sz 0 0) : V l g sc μ d ρ pc ls (.long x :: st) f sz 0 0 := by
  intro p e R s m args below meth c H locs LS C hw hS hl
  have kk := k p e R s m args below meth c H locs LS C hw hS hl
  obtain ⟨hx, hb, hml, hown, ok, -, -, -, -, -, -, -, -, q1, q2, -⟩ := C
  exact va_mabs_long hx hb (hml.trans hl.1.symm) hown (ok _ ML.1) (ok _ ML.2.1) (ok _ ML.2.2) (ok _ hm.1) (by omega) (by omega) (Nat.zero_le _) (Nat.zero_le _) hd kk
end RM
