/-! AMOUNTS as signs tell them -/
abbrev dgc (x : Int32) : Prop := ¬ x < (48 : Int32) ∧ ¬ (57 : Int32) < x
def run : List Int32 → Nat
  | [] => 0
  | x :: xs => if dgc x then run xs + 1 else 0
def rval (a : Nat) : List Int32 → Nat
  | [] => a
  | x :: xs => if dgc x then rval (a * 10 + (x.toNatClampNeg - 48)) xs else a
def prt (l : List Int32) (e : Nat) : Option Nat :=
  if e = l.length then some 0
  else if l.getD e 0 = 46 ∧ (1 ≤ l.length - (e + 1) ∧ l.length - (e + 1) ≤ 3) ∧ run (l.drop (e + 1)) = l.length - (e + 1) then some (rval 0 (l.drop (e + 1)) * 10 ^ (3 - (l.length - (e + 1)))) else none
def beg (l : List Int32) : Nat := if l.getD 0 0 = 45 then 1 else 0
def amt (l : List Int32) : Option Int :=
  if l.length = 0 then some 0
  else if run (l.drop (beg l)) < 1 ∨ 9 < run (l.drop (beg l)) then none
  else match prt l (beg l + run (l.drop (beg l))) with
    | none => none
    | some p => some (if l.getD 0 0 = 45 then -((rval 0 (l.drop (beg l)) * 1000 + p : Nat) : Int) else ((rval 0 (l.drop (beg l)) * 1000 + p : Nat) : Int))
theorem run_d {x : Int32} (h : dgc x) (xs : List Int32) : run (x :: xs) = run xs + 1 := by simp only [run]; rw [if_pos h]
theorem run_n {x : Int32} (h : ¬ dgc x) (xs : List Int32) : run (x :: xs) = 0 := by simp only [run]; rw [if_neg h]
theorem rval_d {x : Int32} (h : dgc x) (a : Nat) (xs : List Int32) : rval a (x :: xs) = rval (a * 10 + (x.toNatClampNeg - 48)) xs := by simp only [rval]; rw [if_pos h]
theorem rval_n {x : Int32} (h : ¬ dgc x) (a : Nat) (xs : List Int32) : rval a (x :: xs) = a := by simp only [rval]; rw [if_neg h]
theorem run_le : ∀ l, run l ≤ l.length
  | [] => by simp [run]
  | x :: xs => by
    have := run_le xs
    unfold run
    split <;> simp <;> omega
theorem dgc_n {x : Int32} (h : dgc x) : ∃ d, d ≤ 9 ∧ x = nI (48 + d) ∧ x.toNatClampNeg = 48 + d := by
  have h1 := h.1
  have h2 := h.2
  rw [Int32.lt_iff_toInt_lt, show (48 : Int32).toInt = 48 from rfl] at h1
  rw [Int32.lt_iff_toInt_lt, show (57 : Int32).toInt = 57 from rfl] at h2
  refine ⟨x.toInt.toNat - 48, by omega, ?_, ?_⟩
  · apply Int32.toInt_inj.mp
    rw [nIT (by omega)]
    omega
  · rw [clN]; omega
theorem rval_lt : ∀ (l : List Int32) (a : Nat), rval a l < (a + 1) * 10 ^ run l
  | [], a => by simp [rval, run]
  | x :: xs, a => by
    unfold rval run
    by_cases c : dgc x
    · rw [if_pos c, if_pos c]
      obtain ⟨d, hd, _, e⟩ := dgc_n c
      have := rval_lt xs (a * 10 + (x.toNatClampNeg - 48))
      refine Nat.lt_of_lt_of_le this ?_
      rw [Nat.pow_succ, ← Nat.mul_assoc, Nat.mul_right_comm]
      exact Nat.mul_le_mul_right _ (by omega)
    · rw [if_neg c, if_neg c]
      omega
theorem prt_lt {l : List Int32} {e p : Nat} (h : prt l e = some p) : p < 1000 := by
  unfold prt at h
  split at h
  · simp at h; omega
  · split at h
    · rename_i _ hc
      simp only [Option.some.injEq] at h
      have := rval_lt (l.drop (e + 1)) 0
      rw [hc.2.2] at this
      rw [← h]
      have h3 := hc.2.1
      rcases (show l.length - (e + 1) = 1 ∨ l.length - (e + 1) = 2 ∨ l.length - (e + 1) = 3 by omega) with q | q | q <;> rw [q] at this ⊢ <;> simp at this ⊢ <;> omega
    · simp at h
theorem amt_rng {l : List Int32} {v : Int} (h : amt l = some v) : -999999999999 ≤ v ∧ v ≤ 999999999999 := by
  unfold amt at h
  split at h
  · simp at h; omega
  · split at h
    · simp at h
    · rename_i _ hr
      split at h
      · simp at h
      · rename_i p hp
        have h1 := prt_lt hp
        have h2 := rval_lt (l.drop (beg l)) 0
        have h3 : 10 ^ run (l.drop (beg l)) ≤ 10 ^ 9 := Nat.pow_le_pow_right (by omega) (by omega)
        have h4 : rval 0 (l.drop (beg l)) < 10 ^ 9 := by omega
        simp only [Option.some.injEq] at h
        split at h <;> omega
def encC : Option Int → Int64
  | none => -9223372036854775808
  | some v => Int64.ofInt v
def encM : Option Int → Int64
  | none => 9000000000000000000
  | some v => Int64.ofInt v
theorem lN_ofInt (n : Nat) : lN n = Int64.ofInt (n : Int) := rfl
theorem drop_cons {l : List Int32} {j : Nat} (h : j < l.length) : l.drop j = l.getD j 0 :: l.drop (j + 1) := by
  rw [List.drop_eq_getElem_cons h, List.getD_eq_getElem?_getD, List.getElem?_eq_getElem h]
  rfl
theorem e_isDigit {N : Nat} {f : HF} (x : Int32) : DX0_isDigit N x f = some (if dgc x then 1 else 0) := by
  unfold DX0_isDigit
  by_cases a : x < (48 : Int32) <;> by_cases b : (57 : Int32) < x <;> simp [dgc, a, b]
theorem dgt_step {x : Int32} (h : dgc x) (a : Nat) : lN a * 10 + x.toInt64 - 48 = lN (a * 10 + (x.toNatClampNeg - 48)) := by
  obtain ⟨d, hd, e, e2⟩ := dgc_n h
  rw [e2, e, nI_l (by omega), show (10 : Int64) = lN 10 from rfl, lN_mul, lN_add, show (48 : Int64) = lN 48 from rfl, lN_sub (by omega)]
  congr 1
  omega
theorem dgt_step2 {x : Int32} (h : dgc x) (a : Nat) : 10 * lN a + x.toInt64 - 48 = lN (a * 10 + (x.toNatClampNeg - 48)) := by
  rw [Int64.mul_comm, dgt_step h]
theorem e_of40 {N h : Nat} {σ : SG} {s : AS} {r i j : Nat} (hr : RLs σ s r i j) (ng bg : Int32) : ∀ (w q a : Nat), q ≤ (s.2.2.1 i j).length → (s.2.2.1 i j).length - q < w → DX0_of_40 N (HH h σ) w (h + r) ng bg (nI q) (lN a) = DX0_of_84 N (HH h σ) (h + r) ng bg (nI (q + run ((s.2.2.1 i j).drop q))) (lN (rval a ((s.2.2.1 i j).drop q))) := by
  intro w
  have hle := hr.le
  induction w with
  | zero => intro q a _ hw; omega
  | succ w ih =>
    intro q a hq hw
    simp only [DX0_of_40, e_cntL hr, Option.bind_some, bRT, bRW, bWW, bW, le0, ne10, if_true, if_false, not_true_eq_false, not_false_eq_true, uI_at, uA_1, uB_1, uG_1, uI_2]
    by_cases c : (s.2.2.1 i j).length ≤ q
    · rw [if_pos (nI_le c (by omega)), List.drop_eq_nil_of_le c]
      rfl
    · have hlt : q < (s.2.2.1 i j).length := by omega
      rw [if_neg (nI_ge hlt (by omega)), drop_cons hlt]
      simp only [e_getL hr hlt, e_isDigit, Option.bind_some, bRT, bRW, bWW, bW, le0, ne10, if_true, if_false, not_true_eq_false, not_false_eq_true, uI_at, uA_1, uB_1, uG_1, uI_2, ite01]
      by_cases d : dgc ((s.2.2.1 i j).getD q 0)
      · rw [if_neg (fun z => z d), run_d d, rval_d d, dgt_step d, nI_1, ih (q + 1) _ (by omega) (by omega)]
        congr 2
        omega
      · rw [if_pos d, run_n d, rval_n d]
        rfl
theorem nI_sub48 (d : Nat) : nI (48 + d) - (48 : Int32) = nI d := by
  rw [show (48 : Int32) = nI 48 from rfl, ← nI_add, Int32.add_comm, Int32.add_sub_cancel]
theorem e_part54 {N h : Nat} {σ : SG} {s : AS} {r i j : Nat} (hr : RLs σ s r i j) : ∀ (w t q a : Nat), q ≤ (s.2.2.1 i j).length → (s.2.2.1 i j).length - q < w → t + ((s.2.2.1 i j).length - q) ≤ 3 → DX0_partOf_54 N (HH h σ) w (h + r) (lN (a * 10 ^ (3 - t))) (nI (100 / 10 ^ t)) (nI q) = some (if run ((s.2.2.1 i j).drop q) = (s.2.2.1 i j).length - q then lN (rval a ((s.2.2.1 i j).drop q) * 10 ^ (3 - (t + ((s.2.2.1 i j).length - q)))) else -9223372036854775808) := by
  intro w
  have hle := hr.le
  induction w with
  | zero => intro t q a _ hw; omega
  | succ w ih =>
    intro t q a hq hw ht
    simp only [DX0_partOf_54, e_cntL hr, Option.bind_some, bRT, bRW, bWW, bW, le0, ne10, if_true, if_false, not_true_eq_false, not_false_eq_true, uI_at, uA_1, uB_1, uG_1, uI_2]
    by_cases c : (s.2.2.1 i j).length ≤ q
    · rw [if_pos (nI_le c (by omega)), List.drop_eq_nil_of_le c, show (s.2.2.1 i j).length - q = 0 by omega]
      simp [run, rval]
    · have hlt : q < (s.2.2.1 i j).length := by omega
      rw [if_neg (nI_ge hlt (by omega)), drop_cons hlt]
      simp only [e_getL hr hlt, e_isDigit, Option.bind_some, bRT, bRW, bWW, bW, le0, ne10, if_true, if_false, not_true_eq_false, not_false_eq_true, uI_at, uA_1, uB_1, uG_1, uI_2, ite01]
      by_cases d : dgc ((s.2.2.1 i j).getD q 0)
      · have ht3 : t = 0 ∨ t = 1 ∨ t = 2 := by omega
        obtain ⟨g, hg, e, e2⟩ := dgc_n d
        rw [if_neg (fun z => z d), run_d d, rval_d d]
        have hval : lN (a * 10 ^ (3 - t)) + ((s.2.2.1 i j).getD q 0 - 48).toInt64 * (nI (100 / 10 ^ t)).toInt64 = lN ((a * 10 + ((s.2.2.1 i j).getD q 0).toNatClampNeg - 48) * 10 ^ (3 - (t + 1))) := by
          rw [e2, e, nI_sub48, nI_l (by omega), nI_l (by rcases ht3 with z | z | z <;> rw [z] <;> decide), lN_mul, lN_add]
          rcases ht3 with z | z | z <;> rw [z] <;> congr 1 <;> simp <;> omega
        have hu : nI (100 / 10 ^ t) / (10 : Int32) = nI (100 / 10 ^ (t + 1)) := by rcases ht3 with z | z | z <;> rw [z] <;> rfl
        have e3 : a * 10 + ((s.2.2.1 i j).getD q 0).toNatClampNeg - 48 = a * 10 + (((s.2.2.1 i j).getD q 0).toNatClampNeg - 48) := by omega
        rw [hval, hu, nI_1, ih (t + 1) (q + 1) _ (by omega) (by omega) (by omega), e3, show t + 1 + ((s.2.2.1 i j).length - (q + 1)) = t + ((s.2.2.1 i j).length - q) by omega]
        have hc : (run ((s.2.2.1 i j).drop (q + 1)) = (s.2.2.1 i j).length - (q + 1)) = (run ((s.2.2.1 i j).drop (q + 1)) + 1 = (s.2.2.1 i j).length - q) := propext (by omega)
        simp only [hc]
      · rw [if_pos d, run_n d, if_neg (by omega)]
theorem e_partOf {N h : Nat} (hN : 10000 ≤ N) {σ : SG} {s : AS} {r i j : Nat} (hr : RLs σ s r i j) {e : Nat} (he : e ≤ (s.2.2.1 i j).length) : DX0_partOf N (h + r) (nI e) (HH h σ) = some (match prt (s.2.2.1 i j) e with | none => -9223372036854775808 | some p => lN p) := by
  have hle := hr.le
  simp only [DX0_partOf, e_cntL hr, Option.bind_some, bRT, bRW, bWW, bW, le0, ne10, if_true, if_false, not_true_eq_false, not_false_eq_true, uI_at, uA_1, uB_1, uG_1, uI_2]
  unfold prt
  by_cases c : e = (s.2.2.1 i j).length
  · rw [if_pos (by rw [c]), if_pos c]
    rfl
  · have hlt : e < (s.2.2.1 i j).length := by omega
    have hd : nI (s.2.2.1 i j).length - nI e - 1 = nI ((s.2.2.1 i j).length - (e + 1)) := by
      have : (s.2.2.1 i j).length = ((s.2.2.1 i j).length - (e + 1)) + 1 + e := by omega
      rw [this, ← nI_add, Int32.add_sub_cancel, nI_pred]
      congr 1
      omega
    rw [if_neg (by rw [nI_eq (by omega) (by omega)]; exact c), if_neg c]
    simp only [e_getL hr hlt, Option.bind_some, bRT, bRW, bWW, bW, le0, ne10, if_true, if_false, not_true_eq_false, not_false_eq_true, uI_at, uA_1, uB_1, uG_1, uI_2, hd]
    by_cases p : (s.2.2.1 i j).getD e 0 = 46
    · rw [if_pos p]
      by_cases a : (s.2.2.1 i j).length - (e + 1) < 1
      · rw [if_pos (show nI ((s.2.2.1 i j).length - (e + 1)) < (1 : Int32) from nI_lt (b := 1) a (by omega)), if_neg (fun z => by omega)]
      · rw [if_neg (show ¬ nI ((s.2.2.1 i j).length - (e + 1)) < (1 : Int32) from nI_nlt (b := 1) (by omega) (by omega))]
        by_cases b : (s.2.2.1 i j).length - (e + 1) ≤ 3
        · rw [if_pos (show nI ((s.2.2.1 i j).length - (e + 1)) ≤ (3 : Int32) from nI_le (b := 3) b (by omega)), nI_1]
          have := e_part54 (N := N) (h := h) hr N 0 (e + 1) 0 (by omega) (by omega) (by omega)
          simp only [Nat.zero_mul, Nat.zero_add] at this
          refine this.trans ?_
          by_cases z : run ((s.2.2.1 i j).drop (e + 1)) = (s.2.2.1 i j).length - (e + 1)
          · rw [if_pos z, if_pos ⟨p, ⟨by omega, b⟩, z⟩]
          · rw [if_neg z, if_neg (fun y => z y.2.2)]
        · rw [if_neg (show ¬ nI ((s.2.2.1 i j).length - (e + 1)) ≤ (3 : Int32) from nI_ge (a := 3) (by omega) (by omega)), if_neg (fun z => b z.2.1.2)]
    · rw [if_neg p, if_neg (fun z => p z.1)]
theorem lN_nmin {p : Nat} (h : p < 1000) : ¬ lN p = (-9223372036854775808 : Int64) := fun e => by
  have := congrArg Int64.toInt e
  rw [lNT (by omega)] at this
  rw [show (-9223372036854775808 : Int64).toInt = -9223372036854775808 from rfl] at this
  omega
theorem e_of {N h : Nat} (hN : 10000 ≤ N) {σ : SG} {s : AS} {r i j : Nat} (hr : RLs σ s r i j) : DX0_of N (h + r) (HH h σ) = some (encC (amt (s.2.2.1 i j))) := by
  have hle := hr.le
  simp only [DX0_of, DX0_of_24, DX0_of_34, e_cntL hr, Option.bind_some, bRT, bRW, bWW, bW, le0, ne10, if_true, if_false, not_true_eq_false, not_false_eq_true, uI_at, uA_1, uB_1, uG_1, uI_2]
  unfold amt
  by_cases c : (s.2.2.1 i j).length = 0
  · rw [if_pos (by rw [c]; rfl), if_pos c]
    rfl
  · rw [if_neg (nI_ne0 (by omega) (by omega)), if_neg c]
    have g0 := e_getL (N := N) (h := h) hr (q := 0) (by omega)
    rw [nI_0] at g0
    simp only [g0, Option.bind_some, bRT, bRW, bWW, bW, le0, ne10, if_true, if_false, not_true_eq_false, not_false_eq_true, uI_at, uA_1, uB_1, uG_1, uI_2]
    have key : ∀ (ng : Int32) (b : Nat), b = beg (s.2.2.1 i j) → (ng = 0 ↔ ¬ (s.2.2.1 i j).getD 0 0 = 45) → DX0_of_40 N (HH h σ) N (h + r) ng (nI b) (nI b) (lN 0) = some (encC (if run ((s.2.2.1 i j).drop (beg (s.2.2.1 i j))) < 1 ∨ 9 < run ((s.2.2.1 i j).drop (beg (s.2.2.1 i j))) then none else match prt (s.2.2.1 i j) (beg (s.2.2.1 i j) + run ((s.2.2.1 i j).drop (beg (s.2.2.1 i j)))) with | none => none | some p => some (if (s.2.2.1 i j).getD 0 0 = 45 then -((rval 0 ((s.2.2.1 i j).drop (beg (s.2.2.1 i j))) * 1000 + p : Nat) : Int) else ((rval 0 ((s.2.2.1 i j).drop (beg (s.2.2.1 i j))) * 1000 + p : Nat) : Int)))) := fun ng b hb hng => by
      have hb1 : b ≤ 1 := by rw [hb]; unfold beg; split <;> omega
      rw [← hb, e_of40 hr ng (nI b) N b 0 (by omega) (by omega)]
      have hrl := run_le ((s.2.2.1 i j).drop b)
      rw [List.length_drop] at hrl
      have hs : nI (b + run ((s.2.2.1 i j).drop b)) - nI b = nI (run ((s.2.2.1 i j).drop b)) := by
        rw [← nI_add, Int32.add_comm, Int32.add_sub_cancel]
      unfold DX0_of_84
      rw [hs]
      by_cases a1 : run ((s.2.2.1 i j).drop b) < 1
      · rw [if_pos (show nI (run ((s.2.2.1 i j).drop b)) < (1 : Int32) from nI_lt (b := 1) a1 (by omega)), if_pos (Or.inl a1)]
        rfl
      · rw [if_neg (show ¬ nI (run ((s.2.2.1 i j).drop b)) < (1 : Int32) from nI_nlt (b := 1) (by omega) (by omega))]
        by_cases a9 : run ((s.2.2.1 i j).drop b) ≤ 9
        · rw [if_pos (show nI (run ((s.2.2.1 i j).drop b)) ≤ (9 : Int32) from nI_le (b := 9) a9 (by omega)), if_neg (by omega), e_partOf hN hr (by omega)]
          simp only [Option.bind_some, bRT, bRW, bWW, bW, le0, ne10, if_true, if_false, not_true_eq_false, not_false_eq_true, uI_at, uA_1, uB_1, uG_1, uI_2]
          cases hp : prt (s.2.2.1 i j) (b + run ((s.2.2.1 i j).drop b)) with
          | none => simp [encC]
          | some p =>
            simp only [lN_nmin (prt_lt hp), if_false, encC]
            rw [show (1000 : Int64) = lN 1000 from rfl, lN_mul, lN_add]
            by_cases z : (s.2.2.1 i j).getD 0 0 = 45
            · rw [if_neg (fun y => absurd z (hng.mp y)), if_pos z, Int64.ofInt_neg]
              rfl
            · rw [if_pos (hng.mpr z), if_neg z]
              rfl
        · rw [if_neg (show ¬ nI (run ((s.2.2.1 i j).drop b)) ≤ (9 : Int32) from nI_ge (a := 9) (by omega) (by omega)), if_pos (Or.inr (by omega))]
          rfl
    by_cases z : (s.2.2.1 i j).getD 0 0 = 45
    · rw [if_pos z]
      exact key 1 1 (by unfold beg; rw [if_pos z]) ⟨fun y => absurd y (by decide), fun y => absurd z y⟩
    · rw [if_neg z]
      exact key 0 0 (by unfold beg; rw [if_neg z]) ⟨fun _ => z, fun _ => rfl⟩
