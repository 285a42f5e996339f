/-! HOW A CALL COMES OUT: in the class, and in the reference from any store that stands for the same state -/
theorem le0 : ((0 : Int32) ≤ 0) = True := eq_true (by decide)
theorem ne10 : ((1 : Int32) = 0) = False := eq_false (by decide)
theorem uA_1 (σ : SG) (k j : Nat) (x : Int32) : (uA σ k j x).1 = σ.1 := rfl
theorem uB_1 (σ : SG) (k j : Nat) (x : Int64) : (uB σ k j x).1 = σ.1 := rfl
theorem uG_1 (σ : SG) (k j : Nat) (x : Int64) : (uG σ k j x).1 = σ.1 := rfl
theorem uI_2 (σ : SG) (k j : Nat) (x : Int32) : (uI σ k j x).2 = σ.2 := rfl
def St (σ : SG) (s : AS) : Prop := RC σ s ∧ RM σ s ∧ Inv s
def fc (σ τ : SG) : Prop := ∀ k, 275 ≤ k → agr σ τ k
def fm (σ τ : SG) : Prop := ∀ k, k < 275 ∨ 305 < k → agr σ τ k
def Out {α : Type} (h : Nat) (σ : SG) (s : AS) (ex : Nat → String) (o : Option ((α ⊕ String) × HF)) (p : SG → Option (α × HF)) : Prop :=
  ∃ s1 σ1 r, o = some (r, HH h σ1) ∧ RC σ1 s1 ∧ Inv s1 ∧ fc σ σ1 ∧ ∀ σ', RM σ' s → ∃ b τ, p σ' = some (b, HH h τ) ∧ RM τ s1 ∧ fm σ' τ ∧ ((r = .inl b ∧ τ.1 275 0 = 0) ∨ ∃ e, 0 < e ∧ e < 5 ∧ r = .inr (ex e) ∧ τ.1 275 0 = nI e ∧ ¬ ex e = "")
theorem fc.rf {σ : SG} : fc σ σ := fun _ _ => ⟨rfl, rfl, rfl, rfl⟩
theorem fc.tr {σ τ υ : SG} (h1 : fc σ τ) (h2 : fc τ υ) : fc σ υ := fun k hk => by
  obtain ⟨a1, a2, a3, a4⟩ := h1 k hk
  obtain ⟨b1, b2, b3, b4⟩ := h2 k hk
  exact ⟨b1.trans a1, b2.trans a2, b3.trans a3, b4.trans a4⟩
theorem fm.rf {σ : SG} : fm σ σ := fun _ _ => ⟨rfl, rfl, rfl, rfl⟩
theorem fm.tr {σ τ υ : SG} (h1 : fm σ τ) (h2 : fm τ υ) : fm σ υ := fun k hk => by
  obtain ⟨a1, a2, a3, a4⟩ := h1 k hk
  obtain ⟨b1, b2, b3, b4⟩ := h2 k hk
  exact ⟨b1.trans a1, b2.trans a2, b3.trans a3, b4.trans a4⟩
theorem fc.I {σ : SG} {k j : Nat} {x : Int32} (hk : k < 275) : fc σ (uI σ k j x) := fun q hq => by
  obtain ⟨a, b, c, d⟩ := uI_off σ k j x q (by omega)
  exact ⟨a.symm, b.symm, c.symm, d.symm⟩
theorem fc.G {σ : SG} {k j : Nat} {x : Int64} (hk : k < 275) : fc σ (uG σ k j x) := fun q hq => by
  obtain ⟨a, b, c, d⟩ := uG_off σ k j x q (by omega)
  exact ⟨a.symm, b.symm, c.symm, d.symm⟩
theorem fc.A {σ : SG} {k j : Nat} {x : Int32} (hk : k < 275) : fc σ (uA σ k j x) := fun q hq => by
  obtain ⟨a, b, c, d⟩ := uA_off σ k j x q (by omega)
  exact ⟨a.symm, b.symm, c.symm, d.symm⟩
theorem fc.but {σ τ : SG} {ks : List Nat} (h : sbut ks σ τ) (hk : ∀ k ∈ ks, k < 275) : fc σ τ := fun q hq => h q (fun c => by have := hk q c; omega)
theorem fm.I {σ : SG} {j : Nat} {x : Int32} : fm σ (uI σ 275 j x) := fun q hq => by
  obtain ⟨a, b, c, d⟩ := uI_off σ 275 j x q (by omega)
  exact ⟨a.symm, b.symm, c.symm, d.symm⟩
theorem fm.A {σ : SG} {k j : Nat} {x : Int32} (hk : 275 ≤ k ∧ k ≤ 305) : fm σ (uA σ k j x) := fun q hq => by
  obtain ⟨a, b, c, d⟩ := uA_off σ k j x q (by omega)
  exact ⟨a.symm, b.symm, c.symm, d.symm⟩
theorem fm.B {σ : SG} {k j : Nat} {x : Int64} (hk : 275 ≤ k ∧ k ≤ 305) : fm σ (uB σ k j x) := fun q hq => by
  obtain ⟨a, b, c, d⟩ := uB_off σ k j x q (by omega)
  exact ⟨a.symm, b.symm, c.symm, d.symm⟩
theorem fm.but {σ τ : SG} {ks : List Nat} (h : sbut ks σ τ) (hk : ∀ k ∈ ks, 275 ≤ k ∧ k ≤ 305) : fm σ τ := fun q hq => h q (fun c => by have := hk q c; omega)
theorem RC.fm {σ τ : SG} {s : AS} (h : RC σ s) (hq : fm σ τ) : RC τ s := h.far (fun k hk => hq k (Or.inl hk))
theorem RM.fc {σ τ : SG} {s : AS} (h : RM σ s) (hq : fc σ τ) : RM τ s := h.far (fun k hk _ => hq k hk)
/-- both throw, and nothing else happens -/
theorem Out.thr {α : Type} {h : Nat} {σ : SG} {s : AS} {ex : Nat → String} {o : Option ((α ⊕ String) × HF)} {p : SG → Option (α × HF)} (hS : St σ s) (e : Nat) (he : 0 < e ∧ e < 5) (b : α) (ho : o = some (.inr (ex e), HH h σ)) (hp : ∀ σ', RM σ' s → p σ' = some (b, HH h (uI σ' 275 0 (nI e))))  (hx : ¬ ex e = "" := by decide) : Out h σ s ex o p :=
  ⟨s, σ, _, ho, hS.1, hS.2.2, fc.rf, fun σ' hM => ⟨b, _, hp σ' hM, hM.thr _, fm.I, Or.inr ⟨e, he.1, he.2, rfl, uI_at _ _ _ _, hx⟩⟩⟩
/-- both answer, and nothing else happens -/
theorem Out.ans {α : Type} {h : Nat} {σ : SG} {s : AS} {ex : Nat → String} {o : Option ((α ⊕ String) × HF)} {p : SG → Option (α × HF)} (hS : St σ s) (b : α) (ho : o = some (.inl b, HH h σ)) (hp : ∀ σ', RM σ' s → p σ' = some (b, HH h (uI σ' 275 0 0))) : Out h σ s ex o p :=
  ⟨s, σ, _, ho, hS.1, hS.2.2, fc.rf, fun σ' hM => ⟨b, _, hp σ' hM, hM.thr _, fm.I, Or.inl ⟨rfl, uI_at _ _ _ _⟩⟩⟩
def ex12 (e : Nat) : String := if e = 1 then "java/util/NoSuchElementException" else if e = 2 then "java/lang/IllegalArgumentException" else if e = 3 then "java/lang/IllegalStateException" else "java/lang/UnsupportedOperationException"
def ex3 (e : Nat) : String := if e = 1 then "java/util/NoSuchElementException" else if e = 2 then "java/lang/IllegalArgumentException" else if e = 3 then "java/lang/UnsupportedOperationException" else ""
def ex2 (e : Nat) : String := if e = 1 then "java/util/NoSuchElementException" else if e = 2 then "java/lang/IllegalArgumentException" else ""
def ex1 (e : Nat) : String := if e = 1 then "java/util/NoSuchElementException" else ""
def ex0 (_ : Nat) : String := ""
def exI (e : Nat) : String := if e = 1 then "java/lang/IndexOutOfBoundsException" else ""
def exA (e : Nat) : String := if e = 1 then "java/lang/ArrayIndexOutOfBoundsException" else ""
def exR (e : Nat) : String := if e = 1 then "java/lang/IllegalArgumentException" else if e = 2 then "java/lang/UnsupportedOperationException" else ""
/-! the reference's cells of one field -/
theorem RM.at1 {σ : SG} {s : AS} {m k c j : Nat} {x : Int32} (hM : RM σ s) (hC : ∀ q, q < 40 → (s.2.2.1 q 0).length ≤ 30 ∧ (s.2.2.1 q 1).length ≤ 12) (hn : s.2.2.2 ≤ 40) (hm : m < s.2.2.2) (hk : 276 ≤ k ∧ k ≤ 296) (hc : mcell k c = m) (hj : j ≠ 4) (hF : RMF (uA σ k c x) (sA s m j x) m) (hW : RMW (uA σ k c x) (sA s m j x) m) : RM (uA σ k c x) (sA s m j x) :=
  hM.one hC hn (by omega) (fun _ _ _ => rfl) (fun k' c' _ _ h => uA_ne _ _ _ _ (fun q => h (by rw [q.1, q.2]; exact hc))) (fun k' h1 _ _ => by funext c'; exact uA_ne _ _ _ _ (by omega)) (fun _ _ _ => rfl) (fun _ => hF) hW rfl (fun q hq => ⟨by funext j'; simp [sA, hq], rfl, rfl⟩) (fun q => by simp [sA]; omega)
/-! KEPT -/
theorem RM.flat {σ : SG} {s : AS} {m : Nat} {x : Int32} (hM : RM σ s) (hC : ∀ q, q < 40 → (s.2.2.1 q 0).length ≤ 30 ∧ (s.2.2.1 q 1).length ≤ 12) (hn : s.2.2.2 ≤ 40) (hm : m < s.2.2.2) : RM (uA σ 283 m x) (sA s m 5 x) := by
  obtain ⟨⟨b1, b2, b3, b4, b5, b6⟩, b7, ⟨b8, b9⟩, b10, b11, b12⟩ := hM.F hm
  obtain ⟨⟨d1, d2, d3, d4⟩, d5, ⟨d6, d7⟩, ⟨d8, d9⟩⟩ := hM.W (show m < 40 by omega)
  refine hM.at1 hC hn hm (by omega) (by simp [mcell]) (by omega) ?_ ?_
  · refine ⟨⟨?_, ?_, ?_, ?_, ?_, ?_⟩, fun hp => ?_, ⟨?_, ?_⟩, ?_, fun hp => ⟨?_, ?_⟩, fun hp => ?_⟩
    · simpa [uA, sA] using b1
    · simpa [uA, sA] using b2
    · simpa [uA, sA] using b3
    · simpa [uA, sA] using b4
    · simpa [uA, sA] using b5
    · simpa [uA, sA] using b6
    · have hp' : pk (s.1 m 1) := by simpa [sA] using hp
      simpa [uA, sA] using b7 hp'
    · simpa [uA, sA] using b8
    · simpa [uA, sA] using b9
    · simpa [uA, sA] using b10
    · have hp' : two (s.1 m 13) := by simpa [sA] using hp
      have := (b11 hp').1
      simpa [uA, sA] using this
    · have hp' : two (s.1 m 13) := by simpa [sA] using hp
      have := (b11 hp').2
      simpa [uA, sA] using this
    · have hp' : s.1 m 13 = 6 ∨ s.1 m 13 = 7 := by simpa [sA] using hp
      simpa [uA, sA] using b12 hp'
  · refine ⟨⟨?_, ?_, ?_, ?_⟩, fun j hj => ?_, ⟨?_, fun j hj => ?_⟩, ⟨?_, fun j hj => ?_⟩⟩
    · simpa [uA, sA] using d1
    · simp [uA, sA]
    · simpa [uA, sA] using d3
    · simpa [uA, sA] using d4
    · have := d5 j hj
      simp only [uA, sA]
      rw [if_neg (by omega), if_neg (by omega)]
      exact this
    · simpa [uA, sA] using d6
    · simpa [uA, sA] using d7 j hj
    · simpa [uA, sA] using d8
    · simpa [uA, sA] using d9 j hj
theorem RM.lock {σ : SG} {s : AS} {m : Nat} {x : Int32} (hM : RM σ s) (hC : ∀ q, q < 40 → (s.2.2.1 q 0).length ≤ 30 ∧ (s.2.2.1 q 1).length ≤ 12) (hn : s.2.2.2 ≤ 40) (hm : m < s.2.2.2) : RM (uA σ 296 m x) (sA s m 6 x) := by
  obtain ⟨⟨b1, b2, b3, b4, b5, b6⟩, b7, ⟨b8, b9⟩, b10, b11, b12⟩ := hM.F hm
  obtain ⟨⟨d1, d2, d3, d4⟩, d5, ⟨d6, d7⟩, ⟨d8, d9⟩⟩ := hM.W (show m < 40 by omega)
  refine hM.at1 hC hn hm (by omega) (by simp [mcell]) (by omega) ?_ ?_
  · refine ⟨⟨?_, ?_, ?_, ?_, ?_, ?_⟩, fun hp => ?_, ⟨?_, ?_⟩, ?_, fun hp => ⟨?_, ?_⟩, fun hp => ?_⟩
    · simpa [uA, sA] using b1
    · simpa [uA, sA] using b2
    · simpa [uA, sA] using b3
    · simpa [uA, sA] using b4
    · simpa [uA, sA] using b5
    · simpa [uA, sA] using b6
    · have hp' : pk (s.1 m 1) := by simpa [sA] using hp
      simpa [uA, sA] using b7 hp'
    · simpa [uA, sA] using b8
    · simpa [uA, sA] using b9
    · simpa [uA, sA] using b10
    · have hp' : two (s.1 m 13) := by simpa [sA] using hp
      have := (b11 hp').1
      simpa [uA, sA] using this
    · have hp' : two (s.1 m 13) := by simpa [sA] using hp
      have := (b11 hp').2
      simpa [uA, sA] using this
    · have hp' : s.1 m 13 = 6 ∨ s.1 m 13 = 7 := by simpa [sA] using hp
      simpa [uA, sA] using b12 hp'
  · refine ⟨⟨?_, ?_, ?_, ?_⟩, fun j hj => ?_, ⟨?_, fun j hj => ?_⟩, ⟨?_, fun j hj => ?_⟩⟩
    · simpa [uA, sA] using d1
    · simpa [uA, sA] using d2
    · simp [uA, sA]
    · simpa [uA, sA] using d4
    · have := d5 j hj
      simp only [uA, sA]
      rw [if_neg (by omega), if_neg (by omega)]
      exact this
    · simpa [uA, sA] using d6
    · simpa [uA, sA] using d7 j hj
    · simpa [uA, sA] using d8
    · simpa [uA, sA] using d9 j hj
theorem RM.failing {σ : SG} {s : AS} {m : Nat} {x : Int32} (hM : RM σ s) (hC : ∀ q, q < 40 → (s.2.2.1 q 0).length ≤ 30 ∧ (s.2.2.1 q 1).length ≤ 12) (hn : s.2.2.2 ≤ 40) (hm : m < s.2.2.2) : RM (uA σ 295 m x) (sA s m 16 x) := by
  obtain ⟨⟨b1, b2, b3, b4, b5, b6⟩, b7, ⟨b8, b9⟩, b10, b11, b12⟩ := hM.F hm
  obtain ⟨⟨d1, d2, d3, d4⟩, d5, ⟨d6, d7⟩, ⟨d8, d9⟩⟩ := hM.W (show m < 40 by omega)
  refine hM.at1 hC hn hm (by omega) (by simp [mcell]) (by omega) ?_ ?_
  · refine ⟨⟨?_, ?_, ?_, ?_, ?_, ?_⟩, fun hp => ?_, ⟨?_, ?_⟩, ?_, fun hp => ⟨?_, ?_⟩, fun hp => ?_⟩
    · simpa [uA, sA] using b1
    · simpa [uA, sA] using b2
    · simpa [uA, sA] using b3
    · simpa [uA, sA] using b4
    · simpa [uA, sA] using b5
    · simpa [uA, sA] using b6
    · have hp' : pk (s.1 m 1) := by simpa [sA] using hp
      simpa [uA, sA] using b7 hp'
    · simpa [uA, sA] using b8
    · simpa [uA, sA] using b9
    · simpa [uA, sA] using b10
    · have hp' : two (s.1 m 13) := by simpa [sA] using hp
      have := (b11 hp').1
      simpa [uA, sA] using this
    · have hp' : two (s.1 m 13) := by simpa [sA] using hp
      have := (b11 hp').2
      simpa [uA, sA] using this
    · have hp' : s.1 m 13 = 6 ∨ s.1 m 13 = 7 := by simpa [sA] using hp
      simpa [uA, sA] using b12 hp'
  · refine ⟨⟨?_, ?_, ?_, ?_⟩, fun j hj => ?_, ⟨?_, fun j hj => ?_⟩, ⟨?_, fun j hj => ?_⟩⟩
    · simpa [uA, sA] using d1
    · simpa [uA, sA] using d2
    · simpa [uA, sA] using d3
    · simp [uA, sA]
    · have := d5 j hj
      simp only [uA, sA]
      rw [if_neg (by omega), if_neg (by omega)]
      exact this
    · simpa [uA, sA] using d6
    · simpa [uA, sA] using d7 j hj
    · simpa [uA, sA] using d8
    · simpa [uA, sA] using d9 j hj
theorem RM.set0 {σ : SG} {s : AS} {m : Nat} {x : Int32} (hM : RM σ s) (hC : ∀ q, q < 40 → (s.2.2.1 q 0).length ≤ 30 ∧ (s.2.2.1 q 1).length ≤ 12) (hn : s.2.2.2 ≤ 40) (hm : m < s.2.2.2) : RM (uA σ 289 (5 * m + 0) x) (sA s m 20 x) := by
  obtain ⟨⟨b1, b2, b3, b4, b5, b6⟩, b7, ⟨b8, b9⟩, b10, b11, b12⟩ := hM.F hm
  obtain ⟨⟨d1, d2, d3, d4⟩, d5, ⟨d6, d7⟩, ⟨d8, d9⟩⟩ := hM.W (show m < 40 by omega)
  refine hM.at1 hC hn hm (by omega) (by simp [mcell] <;> omega) (by omega) ?_ ?_
  · refine ⟨⟨?_, ?_, ?_, ?_, ?_, ?_⟩, fun hp => ?_, ⟨?_, ?_⟩, ?_, fun hp => ⟨?_, ?_⟩, fun hp => ?_⟩
    · simpa [uA, sA] using b1
    · simpa [uA, sA] using b2
    · simpa [uA, sA] using b3
    · simpa [uA, sA] using b4
    · simpa [uA, sA] using b5
    · simpa [uA, sA] using b6
    · have hp' : pk (s.1 m 1) := by simpa [sA] using hp
      simpa [uA, sA] using b7 hp'
    · simpa [uA, sA] using b8
    · simpa [uA, sA] using b9
    · simpa [uA, sA] using b10
    · have hp' : two (s.1 m 13) := by simpa [sA] using hp
      have := (b11 hp').1
      simpa [uA, sA] using this
    · have hp' : two (s.1 m 13) := by simpa [sA] using hp
      have := (b11 hp').2
      simpa [uA, sA] using this
    · have hp' : s.1 m 13 = 6 ∨ s.1 m 13 = 7 := by simpa [sA] using hp
      simpa [uA, sA] using b12 hp'
  · refine ⟨⟨?_, ?_, ?_, ?_⟩, fun j hj => ?_, ⟨?_, fun j hj => ?_⟩, ⟨?_, fun j hj => ?_⟩⟩
    · simpa [uA, sA] using d1
    · simpa [uA, sA] using d2
    · simpa [uA, sA] using d3
    · simpa [uA, sA] using d4
    · have := d5 j hj
      by_cases e : j = 0
      · subst e; simp [uA, sA]
      · simp [uA, sA]; rw [if_neg (by omega), if_neg (by omega)]; exact this
    · simpa [uA, sA] using d6
    · simpa [uA, sA] using d7 j hj
    · simpa [uA, sA] using d8
    · simpa [uA, sA] using d9 j hj
theorem RM.set1 {σ : SG} {s : AS} {m : Nat} {x : Int32} (hM : RM σ s) (hC : ∀ q, q < 40 → (s.2.2.1 q 0).length ≤ 30 ∧ (s.2.2.1 q 1).length ≤ 12) (hn : s.2.2.2 ≤ 40) (hm : m < s.2.2.2) : RM (uA σ 289 (5 * m + 1) x) (sA s m 21 x) := by
  obtain ⟨⟨b1, b2, b3, b4, b5, b6⟩, b7, ⟨b8, b9⟩, b10, b11, b12⟩ := hM.F hm
  obtain ⟨⟨d1, d2, d3, d4⟩, d5, ⟨d6, d7⟩, ⟨d8, d9⟩⟩ := hM.W (show m < 40 by omega)
  refine hM.at1 hC hn hm (by omega) (by simp [mcell] <;> omega) (by omega) ?_ ?_
  · refine ⟨⟨?_, ?_, ?_, ?_, ?_, ?_⟩, fun hp => ?_, ⟨?_, ?_⟩, ?_, fun hp => ⟨?_, ?_⟩, fun hp => ?_⟩
    · simpa [uA, sA] using b1
    · simpa [uA, sA] using b2
    · simpa [uA, sA] using b3
    · simpa [uA, sA] using b4
    · simpa [uA, sA] using b5
    · simpa [uA, sA] using b6
    · have hp' : pk (s.1 m 1) := by simpa [sA] using hp
      simpa [uA, sA] using b7 hp'
    · simpa [uA, sA] using b8
    · simpa [uA, sA] using b9
    · simpa [uA, sA] using b10
    · have hp' : two (s.1 m 13) := by simpa [sA] using hp
      have := (b11 hp').1
      simpa [uA, sA] using this
    · have hp' : two (s.1 m 13) := by simpa [sA] using hp
      have := (b11 hp').2
      simpa [uA, sA] using this
    · have hp' : s.1 m 13 = 6 ∨ s.1 m 13 = 7 := by simpa [sA] using hp
      simpa [uA, sA] using b12 hp'
  · refine ⟨⟨?_, ?_, ?_, ?_⟩, fun j hj => ?_, ⟨?_, fun j hj => ?_⟩, ⟨?_, fun j hj => ?_⟩⟩
    · simpa [uA, sA] using d1
    · simpa [uA, sA] using d2
    · simpa [uA, sA] using d3
    · simpa [uA, sA] using d4
    · have := d5 j hj
      by_cases e : j = 1
      · subst e; simp [uA, sA]
      · simp [uA, sA]; rw [if_neg (by omega), if_neg (by omega)]; exact this
    · simpa [uA, sA] using d6
    · simpa [uA, sA] using d7 j hj
    · simpa [uA, sA] using d8
    · simpa [uA, sA] using d9 j hj
theorem RM.set2 {σ : SG} {s : AS} {m : Nat} {x : Int32} (hM : RM σ s) (hC : ∀ q, q < 40 → (s.2.2.1 q 0).length ≤ 30 ∧ (s.2.2.1 q 1).length ≤ 12) (hn : s.2.2.2 ≤ 40) (hm : m < s.2.2.2) : RM (uA σ 289 (5 * m + 2) x) (sA s m 22 x) := by
  obtain ⟨⟨b1, b2, b3, b4, b5, b6⟩, b7, ⟨b8, b9⟩, b10, b11, b12⟩ := hM.F hm
  obtain ⟨⟨d1, d2, d3, d4⟩, d5, ⟨d6, d7⟩, ⟨d8, d9⟩⟩ := hM.W (show m < 40 by omega)
  refine hM.at1 hC hn hm (by omega) (by simp [mcell] <;> omega) (by omega) ?_ ?_
  · refine ⟨⟨?_, ?_, ?_, ?_, ?_, ?_⟩, fun hp => ?_, ⟨?_, ?_⟩, ?_, fun hp => ⟨?_, ?_⟩, fun hp => ?_⟩
    · simpa [uA, sA] using b1
    · simpa [uA, sA] using b2
    · simpa [uA, sA] using b3
    · simpa [uA, sA] using b4
    · simpa [uA, sA] using b5
    · simpa [uA, sA] using b6
    · have hp' : pk (s.1 m 1) := by simpa [sA] using hp
      simpa [uA, sA] using b7 hp'
    · simpa [uA, sA] using b8
    · simpa [uA, sA] using b9
    · simpa [uA, sA] using b10
    · have hp' : two (s.1 m 13) := by simpa [sA] using hp
      have := (b11 hp').1
      simpa [uA, sA] using this
    · have hp' : two (s.1 m 13) := by simpa [sA] using hp
      have := (b11 hp').2
      simpa [uA, sA] using this
    · have hp' : s.1 m 13 = 6 ∨ s.1 m 13 = 7 := by simpa [sA] using hp
      simpa [uA, sA] using b12 hp'
  · refine ⟨⟨?_, ?_, ?_, ?_⟩, fun j hj => ?_, ⟨?_, fun j hj => ?_⟩, ⟨?_, fun j hj => ?_⟩⟩
    · simpa [uA, sA] using d1
    · simpa [uA, sA] using d2
    · simpa [uA, sA] using d3
    · simpa [uA, sA] using d4
    · have := d5 j hj
      by_cases e : j = 2
      · subst e; simp [uA, sA]
      · simp [uA, sA]; rw [if_neg (by omega), if_neg (by omega)]; exact this
    · simpa [uA, sA] using d6
    · simpa [uA, sA] using d7 j hj
    · simpa [uA, sA] using d8
    · simpa [uA, sA] using d9 j hj
theorem RM.set3 {σ : SG} {s : AS} {m : Nat} {x : Int32} (hM : RM σ s) (hC : ∀ q, q < 40 → (s.2.2.1 q 0).length ≤ 30 ∧ (s.2.2.1 q 1).length ≤ 12) (hn : s.2.2.2 ≤ 40) (hm : m < s.2.2.2) : RM (uA σ 289 (5 * m + 3) x) (sA s m 23 x) := by
  obtain ⟨⟨b1, b2, b3, b4, b5, b6⟩, b7, ⟨b8, b9⟩, b10, b11, b12⟩ := hM.F hm
  obtain ⟨⟨d1, d2, d3, d4⟩, d5, ⟨d6, d7⟩, ⟨d8, d9⟩⟩ := hM.W (show m < 40 by omega)
  refine hM.at1 hC hn hm (by omega) (by simp [mcell] <;> omega) (by omega) ?_ ?_
  · refine ⟨⟨?_, ?_, ?_, ?_, ?_, ?_⟩, fun hp => ?_, ⟨?_, ?_⟩, ?_, fun hp => ⟨?_, ?_⟩, fun hp => ?_⟩
    · simpa [uA, sA] using b1
    · simpa [uA, sA] using b2
    · simpa [uA, sA] using b3
    · simpa [uA, sA] using b4
    · simpa [uA, sA] using b5
    · simpa [uA, sA] using b6
    · have hp' : pk (s.1 m 1) := by simpa [sA] using hp
      simpa [uA, sA] using b7 hp'
    · simpa [uA, sA] using b8
    · simpa [uA, sA] using b9
    · simpa [uA, sA] using b10
    · have hp' : two (s.1 m 13) := by simpa [sA] using hp
      have := (b11 hp').1
      simpa [uA, sA] using this
    · have hp' : two (s.1 m 13) := by simpa [sA] using hp
      have := (b11 hp').2
      simpa [uA, sA] using this
    · have hp' : s.1 m 13 = 6 ∨ s.1 m 13 = 7 := by simpa [sA] using hp
      simpa [uA, sA] using b12 hp'
  · refine ⟨⟨?_, ?_, ?_, ?_⟩, fun j hj => ?_, ⟨?_, fun j hj => ?_⟩, ⟨?_, fun j hj => ?_⟩⟩
    · simpa [uA, sA] using d1
    · simpa [uA, sA] using d2
    · simpa [uA, sA] using d3
    · simpa [uA, sA] using d4
    · have := d5 j hj
      by_cases e : j = 3
      · subst e; simp [uA, sA]
      · simp [uA, sA]; rw [if_neg (by omega), if_neg (by omega)]; exact this
    · simpa [uA, sA] using d6
    · simpa [uA, sA] using d7 j hj
    · simpa [uA, sA] using d8
    · simpa [uA, sA] using d9 j hj
theorem RM.set4 {σ : SG} {s : AS} {m : Nat} {x : Int32} (hM : RM σ s) (hC : ∀ q, q < 40 → (s.2.2.1 q 0).length ≤ 30 ∧ (s.2.2.1 q 1).length ≤ 12) (hn : s.2.2.2 ≤ 40) (hm : m < s.2.2.2) : RM (uA σ 289 (5 * m + 4) x) (sA s m 24 x) := by
  obtain ⟨⟨b1, b2, b3, b4, b5, b6⟩, b7, ⟨b8, b9⟩, b10, b11, b12⟩ := hM.F hm
  obtain ⟨⟨d1, d2, d3, d4⟩, d5, ⟨d6, d7⟩, ⟨d8, d9⟩⟩ := hM.W (show m < 40 by omega)
  refine hM.at1 hC hn hm (by omega) (by simp [mcell] <;> omega) (by omega) ?_ ?_
  · refine ⟨⟨?_, ?_, ?_, ?_, ?_, ?_⟩, fun hp => ?_, ⟨?_, ?_⟩, ?_, fun hp => ⟨?_, ?_⟩, fun hp => ?_⟩
    · simpa [uA, sA] using b1
    · simpa [uA, sA] using b2
    · simpa [uA, sA] using b3
    · simpa [uA, sA] using b4
    · simpa [uA, sA] using b5
    · simpa [uA, sA] using b6
    · have hp' : pk (s.1 m 1) := by simpa [sA] using hp
      simpa [uA, sA] using b7 hp'
    · simpa [uA, sA] using b8
    · simpa [uA, sA] using b9
    · simpa [uA, sA] using b10
    · have hp' : two (s.1 m 13) := by simpa [sA] using hp
      have := (b11 hp').1
      simpa [uA, sA] using this
    · have hp' : two (s.1 m 13) := by simpa [sA] using hp
      have := (b11 hp').2
      simpa [uA, sA] using this
    · have hp' : s.1 m 13 = 6 ∨ s.1 m 13 = 7 := by simpa [sA] using hp
      simpa [uA, sA] using b12 hp'
  · refine ⟨⟨?_, ?_, ?_, ?_⟩, fun j hj => ?_, ⟨?_, fun j hj => ?_⟩, ⟨?_, fun j hj => ?_⟩⟩
    · simpa [uA, sA] using d1
    · simpa [uA, sA] using d2
    · simpa [uA, sA] using d3
    · simpa [uA, sA] using d4
    · have := d5 j hj
      by_cases e : j = 4
      · subst e; simp [uA, sA]
      · simp [uA, sA]; rw [if_neg (by omega), if_neg (by omega)]; exact this
    · simpa [uA, sA] using d6
    · simpa [uA, sA] using d7 j hj
    · simpa [uA, sA] using d8
    · simpa [uA, sA] using d9 j hj
theorem RM.wid {σ : SG} {s : AS} {m : Nat} {x : Int32} (hM : RM σ s) (hC : ∀ q, q < 40 → (s.2.2.1 q 0).length ≤ 30 ∧ (s.2.2.1 q 1).length ≤ 12) (hn : s.2.2.2 ≤ 40) (hm : m < s.2.2.2) : RM (uA σ 280 m x) (sA s m 25 x) := by
  obtain ⟨⟨b1, b2, b3, b4, b5, b6⟩, b7, ⟨b8, b9⟩, b10, b11, b12⟩ := hM.F hm
  obtain ⟨⟨d1, d2, d3, d4⟩, d5, ⟨d6, d7⟩, ⟨d8, d9⟩⟩ := hM.W (show m < 40 by omega)
  refine hM.at1 hC hn hm (by omega) (by simp [mcell]) (by omega) ?_ ?_
  · refine ⟨⟨?_, ?_, ?_, ?_, ?_, ?_⟩, fun hp => ?_, ⟨?_, ?_⟩, ?_, fun hp => ⟨?_, ?_⟩, fun hp => ?_⟩
    · simpa [uA, sA] using b1
    · simpa [uA, sA] using b2
    · simpa [uA, sA] using b3
    · simpa [uA, sA] using b4
    · simp [uA, sA]
    · simpa [uA, sA] using b6
    · have hp' : pk (s.1 m 1) := by simpa [sA] using hp
      simpa [uA, sA] using b7 hp'
    · simpa [uA, sA] using b8
    · simpa [uA, sA] using b9
    · simpa [uA, sA] using b10
    · have hp' : two (s.1 m 13) := by simpa [sA] using hp
      have := (b11 hp').1
      simpa [uA, sA] using this
    · have hp' : two (s.1 m 13) := by simpa [sA] using hp
      have := (b11 hp').2
      simpa [uA, sA] using this
    · have hp' : s.1 m 13 = 6 ∨ s.1 m 13 = 7 := by simpa [sA] using hp
      simpa [uA, sA] using b12 hp'
  · refine ⟨⟨?_, ?_, ?_, ?_⟩, fun j hj => ?_, ⟨?_, fun j hj => ?_⟩, ⟨?_, fun j hj => ?_⟩⟩
    · simpa [uA, sA] using d1
    · simpa [uA, sA] using d2
    · simpa [uA, sA] using d3
    · simpa [uA, sA] using d4
    · have := d5 j hj
      simp only [uA, sA]
      rw [if_neg (by omega), if_neg (by omega)]
      exact this
    · simpa [uA, sA] using d6
    · simpa [uA, sA] using d7 j hj
    · simpa [uA, sA] using d8
    · simpa [uA, sA] using d9 j hj
theorem RM.hei {σ : SG} {s : AS} {m : Nat} {x : Int32} (hM : RM σ s) (hC : ∀ q, q < 40 → (s.2.2.1 q 0).length ≤ 30 ∧ (s.2.2.1 q 1).length ≤ 12) (hn : s.2.2.2 ≤ 40) (hm : m < s.2.2.2) : RM (uA σ 281 m x) (sA s m 26 x) := by
  obtain ⟨⟨b1, b2, b3, b4, b5, b6⟩, b7, ⟨b8, b9⟩, b10, b11, b12⟩ := hM.F hm
  obtain ⟨⟨d1, d2, d3, d4⟩, d5, ⟨d6, d7⟩, ⟨d8, d9⟩⟩ := hM.W (show m < 40 by omega)
  refine hM.at1 hC hn hm (by omega) (by simp [mcell]) (by omega) ?_ ?_
  · refine ⟨⟨?_, ?_, ?_, ?_, ?_, ?_⟩, fun hp => ?_, ⟨?_, ?_⟩, ?_, fun hp => ⟨?_, ?_⟩, fun hp => ?_⟩
    · simpa [uA, sA] using b1
    · simpa [uA, sA] using b2
    · simpa [uA, sA] using b3
    · simpa [uA, sA] using b4
    · simpa [uA, sA] using b5
    · simp [uA, sA]
    · have hp' : pk (s.1 m 1) := by simpa [sA] using hp
      simpa [uA, sA] using b7 hp'
    · simpa [uA, sA] using b8
    · simpa [uA, sA] using b9
    · simpa [uA, sA] using b10
    · have hp' : two (s.1 m 13) := by simpa [sA] using hp
      have := (b11 hp').1
      simpa [uA, sA] using this
    · have hp' : two (s.1 m 13) := by simpa [sA] using hp
      have := (b11 hp').2
      simpa [uA, sA] using this
    · have hp' : s.1 m 13 = 6 ∨ s.1 m 13 = 7 := by simpa [sA] using hp
      simpa [uA, sA] using b12 hp'
  · refine ⟨⟨?_, ?_, ?_, ?_⟩, fun j hj => ?_, ⟨?_, fun j hj => ?_⟩, ⟨?_, fun j hj => ?_⟩⟩
    · simpa [uA, sA] using d1
    · simpa [uA, sA] using d2
    · simpa [uA, sA] using d3
    · simpa [uA, sA] using d4
    · have := d5 j hj
      simp only [uA, sA]
      rw [if_neg (by omega), if_neg (by omega)]
      exact this
    · simpa [uA, sA] using d6
    · simpa [uA, sA] using d7 j hj
    · simpa [uA, sA] using d8
    · simpa [uA, sA] using d9 j hj
theorem RM.sid {σ : SG} {s : AS} {m : Nat} {x : Int32} (hM : RM σ s) (hC : ∀ q, q < 40 → (s.2.2.1 q 0).length ≤ 30 ∧ (s.2.2.1 q 1).length ≤ 12) (hn : s.2.2.2 ≤ 40) (hm : m < s.2.2.2) : RM (uA σ 282 m x) (sA s m 27 x) := by
  obtain ⟨⟨b1, b2, b3, b4, b5, b6⟩, b7, ⟨b8, b9⟩, b10, b11, b12⟩ := hM.F hm
  obtain ⟨⟨d1, d2, d3, d4⟩, d5, ⟨d6, d7⟩, ⟨d8, d9⟩⟩ := hM.W (show m < 40 by omega)
  refine hM.at1 hC hn hm (by omega) (by simp [mcell]) (by omega) ?_ ?_
  · refine ⟨⟨?_, ?_, ?_, ?_, ?_, ?_⟩, fun hp => ?_, ⟨?_, ?_⟩, ?_, fun hp => ⟨?_, ?_⟩, fun hp => ?_⟩
    · simpa [uA, sA] using b1
    · simpa [uA, sA] using b2
    · simpa [uA, sA] using b3
    · simpa [uA, sA] using b4
    · simpa [uA, sA] using b5
    · simpa [uA, sA] using b6
    · have hp' : pk (s.1 m 1) := by simpa [sA] using hp
      simpa [uA, sA] using b7 hp'
    · simpa [uA, sA] using b8
    · simpa [uA, sA] using b9
    · simpa [uA, sA] using b10
    · have hp' : two (s.1 m 13) := by simpa [sA] using hp
      have := (b11 hp').1
      simpa [uA, sA] using this
    · have hp' : two (s.1 m 13) := by simpa [sA] using hp
      have := (b11 hp').2
      simpa [uA, sA] using this
    · have hp' : s.1 m 13 = 6 ∨ s.1 m 13 = 7 := by simpa [sA] using hp
      simpa [uA, sA] using b12 hp'
  · refine ⟨⟨?_, ?_, ?_, ?_⟩, fun j hj => ?_, ⟨?_, fun j hj => ?_⟩, ⟨?_, fun j hj => ?_⟩⟩
    · simp [uA, sA]
    · simpa [uA, sA] using d2
    · simpa [uA, sA] using d3
    · simpa [uA, sA] using d4
    · have := d5 j hj
      simp only [uA, sA]
      rw [if_neg (by omega), if_neg (by omega)]
      exact this
    · simpa [uA, sA] using d6
    · simpa [uA, sA] using d7 j hj
    · simpa [uA, sA] using d8
    · simpa [uA, sA] using d9 j hj
theorem RM.pick {σ : SG} {s : AS} {m : Nat} {x : Int32} (hM : RM σ s) (hC : ∀ q, q < 40 → (s.2.2.1 q 0).length ≤ 30 ∧ (s.2.2.1 q 1).length ≤ 12) (hn : s.2.2.2 ≤ 40) (hm : m < s.2.2.2) : RM (uA σ 286 m x) (sA s m 10 x) := by
  obtain ⟨⟨b1, b2, b3, b4, b5, b6⟩, b7, ⟨b8, b9⟩, b10, b11, b12⟩ := hM.F hm
  obtain ⟨⟨d1, d2, d3, d4⟩, d5, ⟨d6, d7⟩, ⟨d8, d9⟩⟩ := hM.W (show m < 40 by omega)
  refine hM.at1 hC hn hm (by omega) (by simp [mcell]) (by omega) ?_ ?_
  · refine ⟨⟨?_, ?_, ?_, ?_, ?_, ?_⟩, fun hp => ?_, ⟨?_, ?_⟩, ?_, fun hp => ⟨?_, ?_⟩, fun hp => ?_⟩
    · simpa [uA, sA] using b1
    · simpa [uA, sA] using b2
    · simpa [uA, sA] using b3
    · simpa [uA, sA] using b4
    · simpa [uA, sA] using b5
    · simpa [uA, sA] using b6
    · simp [uA, sA]
    · simpa [uA, sA] using b8
    · simpa [uA, sA] using b9
    · simpa [uA, sA] using b10
    · have hp' : two (s.1 m 13) := by simpa [sA] using hp
      have := (b11 hp').1
      simpa [uA, sA] using this
    · have hp' : two (s.1 m 13) := by simpa [sA] using hp
      have := (b11 hp').2
      simpa [uA, sA] using this
    · have hp' : s.1 m 13 = 6 ∨ s.1 m 13 = 7 := by simpa [sA] using hp
      simpa [uA, sA] using b12 hp'
  · refine ⟨⟨?_, ?_, ?_, ?_⟩, fun j hj => ?_, ⟨?_, fun j hj => ?_⟩, ⟨?_, fun j hj => ?_⟩⟩
    · simpa [uA, sA] using d1
    · simpa [uA, sA] using d2
    · simpa [uA, sA] using d3
    · simpa [uA, sA] using d4
    · have := d5 j hj
      simp only [uA, sA]
      rw [if_neg (by omega), if_neg (by omega)]
      exact this
    · simpa [uA, sA] using d6
    · simpa [uA, sA] using d7 j hj
    · simpa [uA, sA] using d8
    · simpa [uA, sA] using d9 j hj
