/-! THE LAW: each call of a script -/
def kx12 (e1 : String) (f1 : HF) : Option (Int32 × HF) := if e1 = "java/util/NoSuchElementException" then some ((1 : Int32), f1) else if e1 = "java/lang/IllegalArgumentException" then some ((2 : Int32), f1) else if e1 = "java/lang/IllegalStateException" then some ((3 : Int32), f1) else if e1 = "java/lang/UnsupportedOperationException" then some ((4 : Int32), f1) else none
theorem hkx12 (e : Nat) (f : HF) (h1 : 0 < e) (h2 : e < 5) (hne : ¬ ex12 e = "") : kx12 (ex12 e) f = some (nI e, f) := by
  rcases (show e = 1 ∨ e = 2 ∨ e = 3 ∨ e = 4 by omega) with q | q | q | q <;> subst q
  · show kx12 "java/util/NoSuchElementException" f = _
    unfold kx12
    rw [if_pos rfl]
    rfl
  · show kx12 "java/lang/IllegalArgumentException" f = _
    unfold kx12
    rw [if_neg (by decide), if_pos rfl]
    rfl
  · show kx12 "java/lang/IllegalStateException" f = _
    unfold kx12
    rw [if_neg (by decide), if_neg (by decide), if_pos rfl]
    rfl
  · show kx12 "java/lang/UnsupportedOperationException" f = _
    unfold kx12
    rw [if_neg (by decide), if_neg (by decide), if_neg (by decide), if_pos rfl]
    rfl
def kx3 (e1 : String) (f1 : HF) : Option (Int32 × HF) := if e1 = "java/util/NoSuchElementException" then some ((1 : Int32), f1) else if e1 = "java/lang/IllegalArgumentException" then some ((2 : Int32), f1) else if e1 = "java/lang/UnsupportedOperationException" then some ((3 : Int32), f1) else none
theorem hkx3 (e : Nat) (f : HF) (h1 : 0 < e) (h2 : e < 5) (hne : ¬ ex3 e = "") : kx3 (ex3 e) f = some (nI e, f) := by
  rcases (show e = 1 ∨ e = 2 ∨ e = 3 ∨ e = 4 by omega) with q | q | q | q <;> subst q
  · show kx3 "java/util/NoSuchElementException" f = _
    unfold kx3
    rw [if_pos rfl]
    rfl
  · show kx3 "java/lang/IllegalArgumentException" f = _
    unfold kx3
    rw [if_neg (by decide), if_pos rfl]
    rfl
  · show kx3 "java/lang/UnsupportedOperationException" f = _
    unfold kx3
    rw [if_neg (by decide), if_neg (by decide), if_pos rfl]
    rfl
  · exact absurd rfl hne
def kx2 (e1 : String) (f1 : HF) : Option (Int32 × HF) := if e1 = "java/util/NoSuchElementException" then some ((1 : Int32), f1) else if e1 = "java/lang/IllegalArgumentException" then some ((2 : Int32), f1) else none
theorem hkx2 (e : Nat) (f : HF) (h1 : 0 < e) (h2 : e < 5) (hne : ¬ ex2 e = "") : kx2 (ex2 e) f = some (nI e, f) := by
  rcases (show e = 1 ∨ e = 2 ∨ e = 3 ∨ e = 4 by omega) with q | q | q | q <;> subst q
  · show kx2 "java/util/NoSuchElementException" f = _
    unfold kx2
    rw [if_pos rfl]
    rfl
  · show kx2 "java/lang/IllegalArgumentException" f = _
    unfold kx2
    rw [if_neg (by decide), if_pos rfl]
    rfl
  · exact absurd rfl hne
  · exact absurd rfl hne
def kx1 (e1 : String) (f1 : HF) : Option (Int32 × HF) := if e1 = "java/util/NoSuchElementException" then some ((1 : Int32), f1) else none
theorem hkx1 (e : Nat) (f : HF) (h1 : 0 < e) (h2 : e < 5) (hne : ¬ ex1 e = "") : kx1 (ex1 e) f = some (nI e, f) := by
  rcases (show e = 1 ∨ e = 2 ∨ e = 3 ∨ e = 4 by omega) with q | q | q | q <;> subst q
  · show kx1 "java/util/NoSuchElementException" f = _
    unfold kx1
    rw [if_pos rfl]
    rfl
  · exact absurd rfl hne
  · exact absurd rfl hne
  · exact absurd rfl hne
def kxI (e1 : String) (f1 : HF) : Option (Int32 × HF) := if e1 = "java/lang/IndexOutOfBoundsException" then some ((1 : Int32), f1) else none
theorem hkxI (e : Nat) (f : HF) (h1 : 0 < e) (h2 : e < 5) (hne : ¬ exI e = "") : kxI (exI e) f = some (nI e, f) := by
  rcases (show e = 1 ∨ e = 2 ∨ e = 3 ∨ e = 4 by omega) with q | q | q | q <;> subst q
  · show kxI "java/lang/IndexOutOfBoundsException" f = _
    unfold kxI
    rw [if_pos rfl]
    rfl
  · exact absurd rfl hne
  · exact absurd rfl hne
  · exact absurd rfl hne
def kxA (e1 : String) (f1 : HF) : Option (Int32 × HF) := if e1 = "java/lang/ArrayIndexOutOfBoundsException" then some ((1 : Int32), f1) else none
theorem hkxA (e : Nat) (f : HF) (h1 : 0 < e) (h2 : e < 5) (hne : ¬ exA e = "") : kxA (exA e) f = some (nI e, f) := by
  rcases (show e = 1 ∨ e = 2 ∨ e = 3 ∨ e = 4 by omega) with q | q | q | q <;> subst q
  · show kxA "java/lang/ArrayIndexOutOfBoundsException" f = _
    unfold kxA
    rw [if_pos rfl]
    rfl
  · exact absurd rfl hne
  · exact absurd rfl hne
  · exact absurd rfl hne
def kxR (e1 : String) (f1 : HF) : Option (Int32 × HF) := if e1 = "java/lang/IllegalArgumentException" then some ((1 : Int32), f1) else if e1 = "java/lang/UnsupportedOperationException" then some ((2 : Int32), f1) else none
theorem hkxR (e : Nat) (f : HF) (h1 : 0 < e) (h2 : e < 5) (hne : ¬ exR e = "") : kxR (exR e) f = some (nI e, f) := by
  rcases (show e = 1 ∨ e = 2 ∨ e = 3 ∨ e = 4 by omega) with q | q | q | q <;> subst q
  · show kxR "java/lang/IllegalArgumentException" f = _
    unfold kxR
    rw [if_pos rfl]
    rfl
  · show kxR "java/lang/UnsupportedOperationException" f = _
    unfold kxR
    rw [if_neg (by decide), if_pos rfl]
    rfl
  · exact absurd rfl hne
  · exact absurd rfl hne
theorem sL306 {h : Nat} {σ : SG} (x : Int64) : sL (HH h σ) (h + 306) (0 : Int32) x = some (HH h (uB σ 306 0 x)) := sN1 (k := 306) (j := 0) rfl (show 0 < 1 by omega) x
theorem aL306 {h : Nat} {σ : SG} : aL (HH h σ) (h + 306) (0 : Int32) = some (σ.2.2.2 306 0) := aN1 (k := 306) (j := 0) rfl (show 0 < 1 by omega)
theorem f_thrown {N h : Nat} {σ : SG} : DX10_thrown N (h + 275) (HH h σ) = some (σ.1 275 0) := by
  simp only [DX10_thrown, r_ck, r_0, Option.bind_some]
theorem nI_e0 {e : Nat} (h1 : 0 < e) (h2 : e < 5) : ¬ nI e = 0 := fun q => by
  have := (nI_eq (b := 0) (by omega) (by omega)).mp q
  omega
theorem out_step {h : Nat} {σ : SG} {s : AS} {ex : Nat → String} {o : Option ((Int32 ⊕ String) × HF)} {p : SG → Option (Int32 × HF)} (hO : Out h σ s ex o p) (hS : St σ s) (kx : String → HF → Option (Int32 × HF)) (hkx : ∀ (e : Nat) (f : HF), 0 < e → e < 5 → ¬ ex e = "" → kx (ex e) f = some (nI e, f)) : ∃ x σ', bC o (fun x1 f1 => (sL f1 (h + 306) (0 : Int32) (x1.toInt64)).bind fun f2 => some ((0 : Int32), f2)) kx = some (x, HH h σ') ∧ ∃ b τ s1, p σ' = some (b, HH h τ) ∧ St τ s1 ∧ τ.1 275 0 = x ∧ (x = 0 → τ.2.2.2 306 0 = b.toInt64) := by
  obtain ⟨s1, σ1, r, ho, hC1, hI1, hfc, hp⟩ := hO
  have hM1 : RM σ1 s := hS.2.1.fc hfc
  cases r with
  | inl b =>
    have hM2 : RM (uB σ1 306 0 b.toInt64) s := hM1.far (fun k _ hk => by
      obtain ⟨a, b, c, d⟩ := uB_off σ1 306 0 b.toInt64 k (by omega)
      exact ⟨a.symm, b.symm, c.symm, d.symm⟩)
    have hC2 : RC (uB σ1 306 0 b.toInt64) s1 := hC1.far (fun k hk => by
      obtain ⟨a, b, c, d⟩ := uB_off σ1 306 0 b.toInt64 k (by omega)
      exact ⟨a.symm, b.symm, c.symm, d.symm⟩)
    obtain ⟨b', τ, e1, e2, e3, e4⟩ := hp _ hM2
    refine ⟨0, uB σ1 306 0 b.toInt64, ?_, b', τ, s1, e1, ⟨hC2.fm e3, e2, hI1⟩, ?_⟩
    · rw [ho]
      simp only [bC, sL306, Option.bind_some]
    · rcases e4 with ⟨q1, q2⟩ | ⟨e, _, _, q, _⟩
      · refine ⟨q2, fun _ => ?_⟩
        rw [(e3 306 (by omega)).2.2.2, uB_at]
        rw [Sum.inl.inj q1]
      · exact absurd q (by simp)
  | inr str =>
    obtain ⟨b', τ, e1, e2, e3, e4⟩ := hp _ hM1
    rcases e4 with ⟨q1, _⟩ | ⟨e, h1, h2, q, q2, q3⟩
    · exact absurd q1 (by simp)
    · refine ⟨nI e, σ1, ?_, b', τ, s1, e1, ⟨hC1.fm e3, e2, hI1⟩, q2, fun y => absurd y (nI_e0 h1 h2)⟩
      rw [ho]
      simp only [bC]
      rw [Sum.inr.inj q]
      exact hkx e _ h1 h2 q3
theorem out_stepU {α : Type} {h : Nat} {σ : SG} {s : AS} {ex : Nat → String} {o : Option ((α ⊕ String) × HF)} {p : SG → Option (α × HF)} (hO : Out h σ s ex o p) (hS : St σ s) (kx : String → HF → Option (Int32 × HF)) (hkx : ∀ (e : Nat) (f : HF), 0 < e → e < 5 → ¬ ex e = "" → kx (ex e) f = some (nI e, f)) : ∃ x σ', bC o (fun _ f1 => some ((0 : Int32), f1)) kx = some (x, HH h σ') ∧ ∃ b τ s1, p σ' = some (b, HH h τ) ∧ St τ s1 ∧ τ.1 275 0 = x := by
  obtain ⟨s1, σ1, r, ho, hC1, hI1, hfc, hp⟩ := hO
  have hM1 : RM σ1 s := hS.2.1.fc hfc
  obtain ⟨b', τ, e1, e2, e3, e4⟩ := hp _ hM1
  cases r with
  | inl b =>
    rcases e4 with ⟨q1, q2⟩ | ⟨e, _, _, q, _⟩
    · exact ⟨0, σ1, by rw [ho]; rfl, b', τ, s1, e1, ⟨hC1.fm e3, e2, hI1⟩, q2⟩
    · exact absurd q (by simp)
  | inr str =>
    rcases e4 with ⟨q1, _⟩ | ⟨e, h1, h2, q, q2, q3⟩
    · exact absurd q1 (by simp)
    · refine ⟨nI e, σ1, ?_, b', τ, s1, e1, ⟨hC1.fm e3, e2, hI1⟩, q2⟩
      rw [ho]
      simp only [bC]
      rw [Sum.inr.inj q]
      exact hkx e _ h1 h2 q3
theorem out_stepN {h : Nat} {σ : SG} {s : AS} {o : Option ((Int32 ⊕ String) × HF)} {p : SG → Option (Int32 × HF)} (hO : Out h σ s ex0 o p) (hS : St σ s) : ∃ x σ', o = some (.inl x, HH h σ') ∧ ∃ τ s1, p σ' = some (x, HH h τ) ∧ St τ s1 := by
  obtain ⟨s1, σ1, r, ho, hC1, hI1, hfc, hp⟩ := hO
  have hM1 : RM σ1 s := hS.2.1.fc hfc
  obtain ⟨b', τ, e1, e2, e3, e4⟩ := hp _ hM1
  rcases e4 with ⟨q1, q2⟩ | ⟨e, _, _, _, _, q⟩
  · subst q1
    exact ⟨b', σ1, ho, τ, s1, e1, ⟨hC1.fm e3, e2, hI1⟩⟩
  · exact absurd rfl q
theorem bCR_bC {o : Option (Int32 ⊕ String)} {f : HF} {a : Nat} {kx : String → HF → Option (Int32 × HF)} : bCR o (fun x1 => (sL f a (0 : Int32) (x1.toInt64)).bind fun f2 => some ((0 : Int32), f2)) (fun e1 => kx e1 f) = bC (o.map fun r => (r, f)) (fun x1 f1 => (sL f1 a (0 : Int32) (x1.toInt64)).bind fun f2 => some ((0 : Int32), f2)) kx := by
  cases o with
  | none => rfl
  | some r => cases r <;> rfl
theorem fin_eq {h : Nat} {τ : SG} {x b : Int32} {K Z : Option (Int32 × HF)} (h5 : x = 0 → τ.2.2.2 306 0 = b.toInt64) : (if x = 0 then (aL (HH h τ) (h + 306) (0 : Int32)).bind fun y => if y = b.toInt64 then K else Z else K) = K := by
  by_cases e : x = 0
  · rw [if_pos e, aL306, Option.bind_some, if_pos (h5 e)]
  · rw [if_neg e]
theorem xs_at {L : Nat} {xs : Nat → Int32} {p i : Nat} (h : p + i < L) (hL : L ≤ 384) : xsI L xs (nI p + nI i) = some (xs (p + i)) := by
  unfold xsI
  rw [nI_add, nI_clamp (by omega), if_pos ⟨nI_pos (by omega), h⟩]
theorem c0_ok {N L : Nat} {xs : Nat → Int32} (hN : 10000 ≤ N) (hL : L ≤ 384) {h : Nat} {σ : SG} {s : AS} (hS : St σ s) {p : Nat} (hp : p + 6 ≤ L) (kk : Nat → Nat → Nat → Int32 → HF → Nat → Nat → Option (Int32 × HF)) (c z : Nat) : ∃ τ s1, St τ s1 ∧ DL_c0 N L xs kk h (h + 275) (h + 306) (nI p) (HH h σ) c z = kk h (h + 275) (h + 306) (nI p + 6) (HH h τ) (c + 1) (z + 6) := by
  have x1 : xsI L xs (nI p + (1 : Int32)) = some (xs (p + 1)) := xs_at (i := 1) (by omega) hL
  have x2 : xsI L xs (nI p + (2 : Int32)) = some (xs (p + 2)) := xs_at (i := 2) (by omega) hL
  have x3 : xsI L xs (nI p + (3 : Int32)) = some (xs (p + 3)) := xs_at (i := 3) (by omega) hL
  obtain ⟨x, σ', e1, b, τ, s1, e2, e3, e4, e5⟩ := out_step (op_field (N := N) hN hS (xs (p + 1)) (xs (p + 2)) (xs (p + 3))) hS kx12 hkx12
  have e1' : DL_field N h (xs (p + 1)) (xs (p + 2)) (xs (p + 3)) (h + 306) (HH h σ) = some (x, HH h σ') := e1
  refine ⟨τ, s1, e3, ?_⟩
  simp only [DL_c0, x1, x2, x3, Option.bind_some, e1', bW, e2, f_thrown, e4, if_true]
  exact fin_eq e5
theorem c1_ok {N L : Nat} {xs : Nat → Int32} (hN : 10000 ≤ N) (hL : L ≤ 384) {h : Nat} {σ : SG} {s : AS} (hS : St σ s) {p : Nat} (hp : p + 6 ≤ L) (kk : Nat → Nat → Nat → Int32 → HF → Nat → Nat → Option (Int32 × HF)) (c z : Nat) : ∃ τ s1, St τ s1 ∧ DL_c1 N L xs kk h (h + 275) (h + 306) (nI p) (HH h σ) c z = kk h (h + 275) (h + 306) (nI p + 6) (HH h τ) (c + 1) (z + 6) := by
  have x1 : xsI L xs (nI p + (1 : Int32)) = some (xs (p + 1)) := xs_at (i := 1) (by omega) hL
  have x2 : xsI L xs (nI p + (2 : Int32)) = some (xs (p + 2)) := xs_at (i := 2) (by omega) hL
  obtain ⟨x, σ', e1, b, τ, s1, e2, e3, e4, e5⟩ := out_step (op_value (N := N) hS (xs (p + 1)) (xs (p + 2))) hS kx12 hkx12
  have e1' : DL_value N h (xs (p + 1)) (xs (p + 2)) (h + 306) (HH h σ) = some (x, HH h σ') := e1
  refine ⟨τ, s1, e3, ?_⟩
  simp only [DL_c1, x1, x2, Option.bind_some, e1', bW, e2, f_thrown, e4, if_true]
  exact fin_eq e5
theorem c2_ok {N L : Nat} {xs : Nat → Int32} (hN : 10000 ≤ N) (hL : L ≤ 384) {h : Nat} {σ : SG} {s : AS} (hS : St σ s) {p : Nat} (hp : p + 6 ≤ L) (kk : Nat → Nat → Nat → Int32 → HF → Nat → Nat → Option (Int32 × HF)) (c z : Nat) : ∃ τ s1, St τ s1 ∧ DL_c2 N L xs kk h (h + 275) (h + 306) (nI p) (HH h σ) c z = kk h (h + 275) (h + 306) (nI p + 6) (HH h τ) (c + 1) (z + 6) := by
  have x1 : xsI L xs (nI p + (1 : Int32)) = some (xs (p + 1)) := xs_at (i := 1) (by omega) hL
  have x2 : xsI L xs (nI p + (2 : Int32)) = some (xs (p + 2)) := xs_at (i := 2) (by omega) hL
  obtain ⟨x, σ', e1, b, τ, s1, e2, e3, e4, e5⟩ := out_step (op_option (N := N) hN hS (xs (p + 1)) (xs (p + 2))) hS kx3 hkx3
  have e1' : DL_option N h (xs (p + 1)) (xs (p + 2)) (h + 306) (HH h σ) = some (x, HH h σ') := e1
  refine ⟨τ, s1, e3, ?_⟩
  simp only [DL_c2, x1, x2, Option.bind_some, e1', bW, e2, f_thrown, e4, if_true]
  exact fin_eq e5
theorem c3_ok {N L : Nat} {xs : Nat → Int32} (hN : 10000 ≤ N) (hL : L ≤ 384) {h : Nat} {σ : SG} {s : AS} (hS : St σ s) {p : Nat} (hp : p + 6 ≤ L) (kk : Nat → Nat → Nat → Int32 → HF → Nat → Nat → Option (Int32 × HF)) (c z : Nat) : ∃ τ s1, St τ s1 ∧ DL_c3 N L xs kk h (h + 275) (h + 306) (nI p) (HH h σ) c z = kk h (h + 275) (h + 306) (nI p + 6) (HH h τ) (c + 1) (z + 6) := by
  have x1 : xsI L xs (nI p + (1 : Int32)) = some (xs (p + 1)) := xs_at (i := 1) (by omega) hL
  have x2 : xsI L xs (nI p + (2 : Int32)) = some (xs (p + 2)) := xs_at (i := 2) (by omega) hL
  have x3 : xsI L xs (nI p + (3 : Int32)) = some (xs (p + 3)) := xs_at (i := 3) (by omega) hL
  obtain ⟨x, σ', e1, b, τ, s1, e2, e3, e4, e5⟩ := out_step (op_set (N := N) hS (xs (p + 1)) (xs (p + 2)) (xs (p + 3))) hS kx2 hkx2
  have e1' : DL_set N h (xs (p + 1)) (xs (p + 2)) (xs (p + 3)) (h + 306) (HH h σ) = some (x, HH h σ') := e1
  refine ⟨τ, s1, e3, ?_⟩
  simp only [DL_c3, x1, x2, x3, Option.bind_some, e1', bW, e2, f_thrown, e4, if_true]
  exact fin_eq e5
theorem c5_ok {N L : Nat} {xs : Nat → Int32} (hN : 10000 ≤ N) (hL : L ≤ 384) {h : Nat} {σ : SG} {s : AS} (hS : St σ s) {p : Nat} (hp : p + 6 ≤ L) (kk : Nat → Nat → Nat → Int32 → HF → Nat → Nat → Option (Int32 × HF)) (c z : Nat) : ∃ τ s1, St τ s1 ∧ DL_c5 N L xs kk h (h + 275) (h + 306) (nI p) (HH h σ) c z = kk h (h + 275) (h + 306) (nI p + 6) (HH h τ) (c + 1) (z + 6) := by
  have x1 : xsI L xs (nI p + (1 : Int32)) = some (xs (p + 1)) := xs_at (i := 1) (by omega) hL
  have x2 : xsI L xs (nI p + (2 : Int32)) = some (xs (p + 2)) := xs_at (i := 2) (by omega) hL
  have x3 : xsI L xs (nI p + (3 : Int32)) = some (xs (p + 3)) := xs_at (i := 3) (by omega) hL
  have x4 : xsI L xs (nI p + (4 : Int32)) = some (xs (p + 4)) := xs_at (i := 4) (by omega) hL
  obtain ⟨x, σ', e1, b, τ, s1, e2, e3, e4, e5⟩ := out_step (op_formula (N := N) hS (xs (p + 1)) (xs (p + 2)) (xs (p + 3)) (xs (p + 4))) hS kx2 hkx2
  have e1' : DL_formula N h (xs (p + 1)) (xs (p + 2)) (xs (p + 3)) (xs (p + 4)) (h + 306) (HH h σ) = some (x, HH h σ') := e1
  refine ⟨τ, s1, e3, ?_⟩
  simp only [DL_c5, x1, x2, x3, x4, Option.bind_some, e1', bW, e2, f_thrown, e4, if_true]
  exact fin_eq e5
theorem c7_ok {N L : Nat} {xs : Nat → Int32} (hN : 10000 ≤ N) (hL : L ≤ 384) {h : Nat} {σ : SG} {s : AS} (hS : St σ s) {p : Nat} (hp : p + 6 ≤ L) (kk : Nat → Nat → Nat → Int32 → HF → Nat → Nat → Option (Int32 × HF)) (c z : Nat) : ∃ τ s1, St τ s1 ∧ DL_c7 N L xs kk h (h + 275) (h + 306) (nI p) (HH h σ) c z = kk h (h + 275) (h + 306) (nI p + 6) (HH h τ) (c + 1) (z + 6) := by
  have x1 : xsI L xs (nI p + (1 : Int32)) = some (xs (p + 1)) := xs_at (i := 1) (by omega) hL
  obtain ⟨x, σ', e1, b, τ, s1, e2, e3, e4, e5⟩ := out_step (op_failed (N := N) hS (xs (p + 1))) hS kxI hkxI
  have e1' : DL_failed N h (xs (p + 1)) (h + 306) (HH h σ) = some (x, HH h σ') := (bCR_bC (kx := kxI)).trans e1
  refine ⟨τ, s1, e3, ?_⟩
  simp only [DL_c7, x1, Option.bind_some, e1', bW, e2, f_thrown, e4, if_true]
  exact fin_eq e5
theorem c9_ok {N L : Nat} {xs : Nat → Int32} (hN : 10000 ≤ N) (hL : L ≤ 384) {h : Nat} {σ : SG} {s : AS} (hS : St σ s) {p : Nat} (hp : p + 6 ≤ L) (kk : Nat → Nat → Nat → Int32 → HF → Nat → Nat → Option (Int32 × HF)) (c z : Nat) : ∃ τ s1, St τ s1 ∧ DL_c9 N L xs kk h (h + 275) (h + 306) (nI p) (HH h σ) c z = kk h (h + 275) (h + 306) (nI p + 6) (HH h τ) (c + 1) (z + 6) := by
  have x1 : xsI L xs (nI p + (1 : Int32)) = some (xs (p + 1)) := xs_at (i := 1) (by omega) hL
  have x2 : xsI L xs (nI p + (2 : Int32)) = some (xs (p + 2)) := xs_at (i := 2) (by omega) hL
  obtain ⟨x, σ', e1, b, τ, s1, e2, e3, e4, e5⟩ := out_step (op_shown (N := N) hN hS (xs (p + 1)) (xs (p + 2))) hS kx1 hkx1
  have e1' : DL_shown N h (xs (p + 1)) (xs (p + 2)) (h + 306) (HH h σ) = some (x, HH h σ') := e1
  refine ⟨τ, s1, e3, ?_⟩
  simp only [DL_c9, x1, x2, Option.bind_some, e1', bW, e2, f_thrown, e4, if_true]
  exact fin_eq e5
theorem c10_ok {N L : Nat} {xs : Nat → Int32} (hN : 10000 ≤ N) (hL : L ≤ 384) {h : Nat} {σ : SG} {s : AS} (hS : St σ s) {p : Nat} (hp : p + 6 ≤ L) (kk : Nat → Nat → Nat → Int32 → HF → Nat → Nat → Option (Int32 × HF)) (c z : Nat) : ∃ τ s1, St τ s1 ∧ DL_c10 N L xs kk h (h + 275) (h + 306) (nI p) (HH h σ) c z = kk h (h + 275) (h + 306) (nI p + 6) (HH h τ) (c + 1) (z + 6) := by
  have x1 : xsI L xs (nI p + (1 : Int32)) = some (xs (p + 1)) := xs_at (i := 1) (by omega) hL
  obtain ⟨x, σ', e1, b, τ, s1, e2, e3, e4, e5⟩ := out_step (op_size (N := N) hN hS (xs (p + 1))) hS kx2 hkx2
  have e1' : DL_size N h (xs (p + 1)) (h + 306) (HH h σ) = some (x, HH h σ') := e1
  refine ⟨τ, s1, e3, ?_⟩
  simp only [DL_c10, x1, Option.bind_some, e1', bW, e2, f_thrown, e4, if_true]
  exact fin_eq e5
theorem c11_ok {N L : Nat} {xs : Nat → Int32} (hN : 10000 ≤ N) (hL : L ≤ 384) {h : Nat} {σ : SG} {s : AS} (hS : St σ s) {p : Nat} (hp : p + 6 ≤ L) (kk : Nat → Nat → Nat → Int32 → HF → Nat → Nat → Option (Int32 × HF)) (c z : Nat) : ∃ τ s1, St τ s1 ∧ DL_c11 N L xs kk h (h + 275) (h + 306) (nI p) (HH h σ) c z = kk h (h + 275) (h + 306) (nI p + 6) (HH h τ) (c + 1) (z + 6) := by
  have x1 : xsI L xs (nI p + (1 : Int32)) = some (xs (p + 1)) := xs_at (i := 1) (by omega) hL
  obtain ⟨x, σ', e1, b, τ, s1, e2, e3, e4, e5⟩ := out_step (op_validate (N := N) hN hS (xs (p + 1))) hS kx2 hkx2
  have e1' : DL_validate N h (xs (p + 1)) (h + 306) (HH h σ) = some (x, HH h σ') := (bCR_bC (kx := kx2)).trans e1
  refine ⟨τ, s1, e3, ?_⟩
  simp only [DL_c11, x1, Option.bind_some, e1', bW, e2, f_thrown, e4, if_true]
  exact fin_eq e5
theorem c12_ok {N L : Nat} {xs : Nat → Int32} (hN : 10000 ≤ N) (hL : L ≤ 384) {h : Nat} {σ : SG} {s : AS} (hS : St σ s) {p : Nat} (hp : p + 6 ≤ L) (kk : Nat → Nat → Nat → Int32 → HF → Nat → Nat → Option (Int32 × HF)) (c z : Nat) : ∃ τ s1, St τ s1 ∧ DL_c12 N L xs kk h (h + 275) (h + 306) (nI p) (HH h σ) c z = kk h (h + 275) (h + 306) (nI p + 6) (HH h τ) (c + 1) (z + 6) := by
  have x1 : xsI L xs (nI p + (1 : Int32)) = some (xs (p + 1)) := xs_at (i := 1) (by omega) hL
  obtain ⟨x, σ', e1, b, τ, s1, e2, e3, e4, e5⟩ := out_step (op_appearance (N := N) hN hS (xs (p + 1))) hS kx2 hkx2
  have e1' : DL_appearance N h (xs (p + 1)) (h + 306) (HH h σ) = some (x, HH h σ') := e1
  refine ⟨τ, s1, e3, ?_⟩
  simp only [DL_c12, x1, Option.bind_some, e1', bW, e2, f_thrown, e4, if_true]
  exact fin_eq e5
theorem c13_ok {N L : Nat} {xs : Nat → Int32} (hN : 10000 ≤ N) (hL : L ≤ 384) {h : Nat} {σ : SG} {s : AS} (hS : St σ s) {p : Nat} (hp : p + 6 ≤ L) (kk : Nat → Nat → Nat → Int32 → HF → Nat → Nat → Option (Int32 × HF)) (c z : Nat) : ∃ τ s1, St τ s1 ∧ DL_c13 N L xs kk h (h + 275) (h + 306) (nI p) (HH h σ) c z = kk h (h + 275) (h + 306) (nI p + 6) (HH h τ) (c + 1) (z + 6) := by
  have x1 : xsI L xs (nI p + (1 : Int32)) = some (xs (p + 1)) := xs_at (i := 1) (by omega) hL
  have x2 : xsI L xs (nI p + (2 : Int32)) = some (xs (p + 2)) := xs_at (i := 2) (by omega) hL
  obtain ⟨x, σ', e1, b, τ, s1, e2, e3, e4, e5⟩ := out_step (op_mark (N := N) hS (xs (p + 1)) (xs (p + 2))) hS kxI hkxI
  have e1' : DL_mark N h (xs (p + 1)) (xs (p + 2)) (h + 306) (HH h σ) = some (x, HH h σ') := (bCR_bC (kx := kxI)).trans e1
  refine ⟨τ, s1, e3, ?_⟩
  simp only [DL_c13, x1, x2, Option.bind_some, e1', bW, e2, f_thrown, e4, if_true]
  exact fin_eq e5
theorem c14_ok {N L : Nat} {xs : Nat → Int32} (hN : 10000 ≤ N) (hL : L ≤ 384) {h : Nat} {σ : SG} {s : AS} (hS : St σ s) {p : Nat} (hp : p + 6 ≤ L) (kk : Nat → Nat → Nat → Int32 → HF → Nat → Nat → Option (Int32 × HF)) (c z : Nat) : ∃ τ s1, St τ s1 ∧ DL_c14 N L xs kk h (h + 275) (h + 306) (nI p) (HH h σ) c z = kk h (h + 275) (h + 306) (nI p + 6) (HH h τ) (c + 1) (z + 6) := by
  have x1 : xsI L xs (nI p + (1 : Int32)) = some (xs (p + 1)) := xs_at (i := 1) (by omega) hL
  obtain ⟨x, σ', e1, b, τ, s1, e2, e3, e4, e5⟩ := out_step (op_flatten (N := N) hN hS (xs (p + 1))) hS kx12 hkx12
  have e1' : DL_flatten N h (xs (p + 1)) (h + 306) (HH h σ) = some (x, HH h σ') := e1
  refine ⟨τ, s1, e3, ?_⟩
  simp only [DL_c14, x1, Option.bind_some, e1', bW, e2, f_thrown, e4, if_true]
  exact fin_eq e5
theorem c15_ok {N L : Nat} {xs : Nat → Int32} (hN : 10000 ≤ N) (hL : L ≤ 384) {h : Nat} {σ : SG} {s : AS} (hS : St σ s) {p : Nat} (hp : p + 6 ≤ L) (kk : Nat → Nat → Nat → Int32 → HF → Nat → Nat → Option (Int32 × HF)) (c z : Nat) : ∃ τ s1, St τ s1 ∧ DL_c15 N L xs kk h (h + 275) (h + 306) (nI p) (HH h σ) c z = kk h (h + 275) (h + 306) (nI p + 6) (HH h τ) (c + 1) (z + 6) := by
  have x1 : xsI L xs (nI p + (1 : Int32)) = some (xs (p + 1)) := xs_at (i := 1) (by omega) hL
  have x2 : xsI L xs (nI p + (2 : Int32)) = some (xs (p + 2)) := xs_at (i := 2) (by omega) hL
  obtain ⟨x, σ', e1, b, τ, s1, e2, e3, e4, e5⟩ := out_step (op_page (N := N) hS (xs (p + 1)) (xs (p + 2))) hS kxI hkxI
  have e1' : DL_page N h (xs (p + 1)) (xs (p + 2)) (h + 306) (HH h σ) = some (x, HH h σ') := (bCR_bC (kx := kxI)).trans e1
  refine ⟨τ, s1, e3, ?_⟩
  simp only [DL_c15, x1, x2, Option.bind_some, e1', bW, e2, f_thrown, e4, if_true]
  exact fin_eq e5
theorem c17_ok {N L : Nat} {xs : Nat → Int32} (hN : 10000 ≤ N) (hL : L ≤ 384) {h : Nat} {σ : SG} {s : AS} (hS : St σ s) {p : Nat} (hp : p + 6 ≤ L) (kk : Nat → Nat → Nat → Int32 → HF → Nat → Nat → Option (Int32 × HF)) (c z : Nat) : ∃ τ s1, St τ s1 ∧ DL_c17 N L xs kk h (h + 275) (h + 306) (nI p) (HH h σ) c z = kk h (h + 275) (h + 306) (nI p + 6) (HH h τ) (c + 1) (z + 6) := by
  have x1 : xsI L xs (nI p + (1 : Int32)) = some (xs (p + 1)) := xs_at (i := 1) (by omega) hL
  obtain ⟨x, σ', e1, b, τ, s1, e2, e3, e4, e5⟩ := out_step (op_at (N := N) hS (xs (p + 1))) hS kxA hkxA
  have e1' : DL_at N h (xs (p + 1)) (h + 306) (HH h σ) = some (x, HH h σ') := (bCR_bC (kx := kxA)).trans e1
  refine ⟨τ, s1, e3, ?_⟩
  simp only [DL_c17, x1, Option.bind_some, e1', bW, e2, f_thrown, e4, if_true]
  exact fin_eq e5
theorem c18_ok {N L : Nat} {xs : Nat → Int32} (hN : 10000 ≤ N) (hL : L ≤ 384) {h : Nat} {σ : SG} {s : AS} (hS : St σ s) {p : Nat} (hp : p + 6 ≤ L) (kk : Nat → Nat → Nat → Int32 → HF → Nat → Nat → Option (Int32 × HF)) (c z : Nat) : ∃ τ s1, St τ s1 ∧ DL_c18 N L xs kk h (h + 275) (h + 306) (nI p) (HH h σ) c z = kk h (h + 275) (h + 306) (nI p + 6) (HH h τ) (c + 1) (z + 6) := by
  have x1 : xsI L xs (nI p + (1 : Int32)) = some (xs (p + 1)) := xs_at (i := 1) (by omega) hL
  obtain ⟨x, σ', e1, b, τ, s1, e2, e3, e4, e5⟩ := out_step (op_read (N := N) hN hS (xs (p + 1))) hS kxR hkxR
  have e1' : DL_read N h (xs (p + 1)) (h + 306) (HH h σ) = some (x, HH h σ') := e1
  refine ⟨τ, s1, e3, ?_⟩
  simp only [DL_c18, x1, Option.bind_some, e1', bW, e2, f_thrown, e4, if_true]
  exact fin_eq e5
theorem c4_ok {N L : Nat} {xs : Nat → Int32} (hN : 10000 ≤ N) (hL : L ≤ 384) {h : Nat} {σ : SG} {s : AS} (hS : St σ s) {p : Nat} (hp : p + 6 ≤ L) (kk : Nat → Nat → Nat → Int32 → HF → Nat → Nat → Option (Int32 × HF)) (c z : Nat) : ∃ τ s1, St τ s1 ∧ DL_c4 N L xs kk h (h + 275) (h + 306) (nI p) (HH h σ) c z = kk h (h + 275) (h + 306) (nI p + 6) (HH h τ) (c + 1) (z + 6) := by
  have x1 : xsI L xs (nI p + (1 : Int32)) = some (xs (p + 1)) := xs_at (i := 1) (by omega) hL
  have x2 : xsI L xs (nI p + (2 : Int32)) = some (xs (p + 2)) := xs_at (i := 2) (by omega) hL
  have x3 : xsI L xs (nI p + (3 : Int32)) = some (xs (p + 3)) := xs_at (i := 3) (by omega) hL
  have x4 : xsI L xs (nI p + (4 : Int32)) = some (xs (p + 4)) := xs_at (i := 4) (by omega) hL
  have x5 : xsI L xs (nI p + (5 : Int32)) = some (xs (p + 5)) := xs_at (i := 5) (by omega) hL
  obtain ⟨x, σ', e1, b, τ, s1, e2, e3, e4⟩ := out_stepU (op_bounds (N := N) hS (xs (p + 1)) (((xs (p + 2)).toInt64 <<< ((32 : Int32).toInt64 &&& 63)) ||| ((xs (p + 3)).toInt64 &&& (4294967295 : Int64))) (((xs (p + 4)).toInt64 <<< ((32 : Int32).toInt64 &&& 63)) ||| ((xs (p + 5)).toInt64 &&& (4294967295 : Int64)))) hS kx2 hkx2
  have e1' : DL_bounds N h (xs (p + 1)) (((xs (p + 2)).toInt64 <<< ((32 : Int32).toInt64 &&& 63)) ||| ((xs (p + 3)).toInt64 &&& (4294967295 : Int64))) (((xs (p + 4)).toInt64 <<< ((32 : Int32).toInt64 &&& 63)) ||| ((xs (p + 5)).toInt64 &&& (4294967295 : Int64))) (HH h σ) = some (x, HH h σ') := e1
  refine ⟨τ, s1, e3, ?_⟩
  simp only [DL_c4, x1, x2, x3, x4, x5, Option.bind_some, e1', bW, e2, f_thrown, e4, if_true]
theorem c6_ok {N L : Nat} {xs : Nat → Int32} (hN : 10000 ≤ N) (hL : L ≤ 384) {h : Nat} {σ : SG} {s : AS} (hS : St σ s) {p : Nat} (hp : p + 6 ≤ L) (kk : Nat → Nat → Nat → Int32 → HF → Nat → Nat → Option (Int32 × HF)) (c z : Nat) : ∃ τ s1, St τ s1 ∧ DL_c6 N L xs kk h (h + 275) (h + 306) (nI p) (HH h σ) c z = kk h (h + 275) (h + 306) (nI p + 6) (HH h τ) (c + 1) (z + 6) := by
  obtain ⟨x, σ', e1, τ, s1, e2, e3⟩ := out_stepN (op_calculate (N := N) (h := h) hN hS) hS
  refine ⟨τ, s1, e3, ?_⟩
  simp only [DL_c6, e1, bN, bW, e2, if_true]
theorem c16_ok {N L : Nat} {xs : Nat → Int32} (hN : 10000 ≤ N) (hL : L ≤ 384) {h : Nat} {σ : SG} {s : AS} (hS : St σ s) {p : Nat} (hp : p + 6 ≤ L) (kk : Nat → Nat → Nat → Int32 → HF → Nat → Nat → Option (Int32 × HF)) (c z : Nat) : ∃ τ s1, St τ s1 ∧ DL_c16 N L xs kk h (h + 275) (h + 306) (nI p) (HH h σ) c z = kk h (h + 275) (h + 306) (nI p + 6) (HH h τ) (c + 1) (z + 6) := by
  obtain ⟨x, σ', e1, τ, s1, e2, e3⟩ := out_stepN (op_write (N := N) (h := h) hN hS) hS
  refine ⟨τ, s1, e3, ?_⟩
  simp only [DL_c16, e1, bN, bW, e2, if_true]
theorem c8_ok {N L : Nat} {xs : Nat → Int32} (hN : 10000 ≤ N) (hL : L ≤ 384) {h : Nat} {σ : SG} {s : AS} (hS : St σ s) {p : Nat} (hp : p + 6 ≤ L) (kk : Nat → Nat → Nat → Int32 → HF → Nat → Nat → Option (Int32 × HF)) (c z : Nat) : ∃ τ s1, St τ s1 ∧ DL_c8 N L xs kk h (h + 275) (h + 306) (nI p) (HH h σ) c z = kk h (h + 275) (h + 306) (nI p + 6) (HH h τ) (c + 1) (z + 6) := by
  have x1 : xsI L xs (nI p + (1 : Int32)) = some (xs (p + 1)) := xs_at (i := 1) (by omega) hL
  have x2 : xsI L xs (nI p + (2 : Int32)) = some (xs (p + 2)) := xs_at (i := 2) (by omega) hL
  have go : ∀ v : Int32, (v = 0 ∨ v = 1) → ∃ x σ', DL_fails N h (xs (p + 1)) v (h + 306) (HH h σ) = some (x, HH h σ') ∧ ∃ b τ s1, DX10_fails N (h + 275) (xs (p + 1)) v (HH h σ') = some (b, HH h τ) ∧ St τ s1 ∧ τ.1 275 0 = x ∧ (x = 0 → τ.2.2.2 306 0 = b.toInt64) := fun v hv => out_step (op_fails (N := N) hS (xs (p + 1)) v hv) hS kx2 hkx2
  by_cases y : xs (p + 2) = 0
  · obtain ⟨x, σ', e1, b, τ, s1, e2, e3, e4, e5⟩ := go 0 (Or.inl rfl)
    refine ⟨τ, s1, e3, ?_⟩
    simp only [DL_c8, x1, x2, Option.bind_some, if_pos y, e1, bW, e2, f_thrown, e4, if_true]
    exact fin_eq e5
  · obtain ⟨x, σ', e1, b, τ, s1, e2, e3, e4, e5⟩ := go 1 (Or.inr rfl)
    refine ⟨τ, s1, e3, ?_⟩
    simp only [DL_c8, x1, x2, Option.bind_some, if_neg y, e1, bW, e2, f_thrown, e4, if_true]
    exact fin_eq e5
theorem c19_ok {N L : Nat} {xs : Nat → Int32} (hN : 10000 ≤ N) (hL : L ≤ 384) {h : Nat} {σ : SG} {s : AS} (hS : St σ s) {p : Nat} (hp : p + 6 ≤ L) (kk : Nat → Nat → Nat → Int32 → HF → Nat → Nat → Option (Int32 × HF)) (c z : Nat) : ∃ τ s1, St τ s1 ∧ DL_c19 N L xs kk h (h + 275) (h + 306) (nI p) (HH h σ) c z = kk h (h + 275) (h + 306) (nI p + 6) (HH h τ) (c + 1) (z + 6) := by
  have x1 : xsI L xs (nI p + (1 : Int32)) = some (xs (p + 1)) := xs_at (i := 1) (by omega) hL
  have x2 : xsI L xs (nI p + (2 : Int32)) = some (xs (p + 2)) := xs_at (i := 2) (by omega) hL
  have go : ∀ v : Int32, (v = 0 ∨ v = 1) → ∃ x σ', DL_lock N h (xs (p + 1)) v (h + 306) (HH h σ) = some (x, HH h σ') ∧ ∃ b τ s1, DX10_lock N (h + 275) (xs (p + 1)) v (HH h σ') = some (b, HH h τ) ∧ St τ s1 ∧ τ.1 275 0 = x ∧ (x = 0 → τ.2.2.2 306 0 = b.toInt64) := fun v hv => out_step (op_lock (N := N) hS (xs (p + 1)) v hv) hS kx2 hkx2
  by_cases y : xs (p + 2) = 0
  · obtain ⟨x, σ', e1, b, τ, s1, e2, e3, e4, e5⟩ := go 0 (Or.inl rfl)
    refine ⟨τ, s1, e3, ?_⟩
    simp only [DL_c19, x1, x2, Option.bind_some, if_pos y, e1, bW, e2, f_thrown, e4, if_true]
    exact fin_eq e5
  · obtain ⟨x, σ', e1, b, τ, s1, e2, e3, e4, e5⟩ := go 1 (Or.inr rfl)
    refine ⟨τ, s1, e3, ?_⟩
    simp only [DL_c19, x1, x2, Option.bind_some, if_neg y, e1, bW, e2, f_thrown, e4, if_true]
    exact fin_eq e5
