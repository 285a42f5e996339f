theorem ip_ {α : Type} {c : Prop} {inst : Decidable c} {a b r : α} (hc : c) (h : (if c then a else b) = r) : a = r := (if_pos hc).symm.trans h
theorem in_ {α : Type} {c : Prop} {inst : Decidable c} {a b r : α} (hc : ¬ c) (h : (if c then a else b) = r) : b = r := (if_neg hc).symm.trans h
/-- none of a switch's rows -/
theorem tsw_out (x : Int32) (lo hi : Int) (h : ∀ z : Int, lo ≤ z → z ≤ hi → ¬ x = Int32.ofInt z) : x.toInt < lo ∨ hi < x.toInt := by
  by_cases h1 : x.toInt < lo
  · exact Or.inl h1
  · by_cases h2 : hi < x.toInt
    · exact Or.inr h2
    · exact absurd (Int32.ofInt_toInt x).symm (h x.toInt (by omega) (by omega))
def bW {τ σ : Type} (o : Option (τ × HF)) (k : τ → HF → Option σ) : Option σ := match o with
  | none => none
  | some (x, f) => k x f
theorem bW_some {τ σ : Type} {o : Option (τ × HF)} {k : τ → HF → Option σ} {r : σ} (h : bW o k = some r) : ∃ x f, o = some (x, f) ∧ k x f = some r := by
  cases o with
  | none => cases h
  | some q => exact ⟨q.1, q.2, rfl, h⟩
