/-! rows of the state; comparisons -/
theorem RLs.rc {σ : SG} {s : AS} {r i j : Nat} (h : RLs σ s r i j) : rc σ r = (s.2.2.1 i j).length := by rw [← h.2, rlist_len]
theorem RLs.le {σ : SG} {s : AS} {r i j : Nat} (h : RLs σ s r i j) : (s.2.2.1 i j).length ≤ 8000 := by
  have := h.1.2.2.2
  have := ln_le (r + 1)
  rw [← h.rc]
  omega
theorem e_cntL {N h : Nat} {σ : SG} {s : AS} {r i j : Nat} (hr : RLs σ s r i j) : DX5_count N (h + r) (HH h σ) = some (nI (s.2.2.1 i j).length) := by
  rw [e_count hr.1.1, hr.1.2.2.1, hr.rc]
theorem rit_get {σ : SG} {s : AS} {r i j : Nat} (hr : RLs σ s r i j) {q : Nat} (hq : q < (s.2.2.1 i j).length) : rit σ r q = (s.2.2.1 i j).getD q 0 := by
  have := rlist_get (σ := σ) (r := r) (j := q) (by rw [hr.rc]; exact hq)
  rw [hr.2] at this
  rw [List.getD_eq_getElem?_getD, this]
  rfl
theorem e_getL {N h : Nat} {σ : SG} {s : AS} {r i j : Nat} (hr : RLs σ s r i j) {q : Nat} (hq : q < (s.2.2.1 i j).length) : DX5_get N (h + r) (nI q) (HH h σ) = some ((s.2.2.1 i j).getD q 0) := by
  rw [e_getN hr.1 (by rw [hr.rc]; exact hq), rit_get hr hq]
theorem e_hasL {N h : Nat} {σ : SG} {s : AS} {r i j : Nat} (hr : RLs σ s r i j) (x : Int32) : DX5_has N (h + r) x (HH h σ) = some (if ¬ x < 0 ∧ ¬ nI (s.2.2.1 i j).length ≤ x then 1 else 0) := by
  rw [e_has hr.1.1, hr.1.2.2.1, hr.rc]
theorem e_findL {N h : Nat} {σ : SG} {s : AS} {r i j : Nat} (hr : RLs σ s r i j) (x : Int32) (hN : 8001 ≤ N) : DX5_find N (h + r) x (HH h σ) = some (fnd x (s.2.2.1 i j) 0) := by
  rw [e_find hr.1 x hN, hr.2]
theorem tl_lt (x y : Int32) : (x.toInt64 < y.toInt64) = (x < y) := by
  rw [Int64.lt_iff_toInt_lt, Int32.lt_iff_toInt_lt, Int32.toInt_toInt64, Int32.toInt_toInt64]
theorem ii_eq {N : Nat} {f : HF} (x a b : Int32) : DX10_isIn N x.toInt64 a.toInt64 b.toInt64 f = some (if a ≤ x ∧ x ≤ b then 1 else 0) := by
  unfold DX10_isIn
  simp only [tl_lt]
  by_cases c1 : x < a
  · rw [if_pos c1, if_neg (fun q => absurd q.1 (Int32.not_le.mpr c1))]
  · rw [if_neg c1]
    by_cases c2 : b < x
    · rw [if_pos c2, if_neg (fun q => absurd q.2 (Int32.not_le.mpr c2))]
    · rw [if_neg c2, if_pos ⟨Int32.not_lt.mp c1, Int32.not_lt.mp c2⟩]
theorem ii_len {N : Nat} {f : HF} (x a : Int32) {l : Nat} (hl : l ≤ 8000) : DX10_isIn N x.toInt64 a.toInt64 ((nI l).toInt64 - 1) f = some (if a ≤ x ∧ ¬ nI l ≤ x then 1 else 0) := by
  have e : (nI l).toInt64 - 1 = (nI l - 1).toInt64 := by
    apply Int64.toInt_inj.mp
    cases l with
    | zero => rfl
    | succ l => rw [nI_pred, nI_l (by omega), nI_l (by omega), ← lN_1, Int64.add_sub_cancel]
  rw [e, ii_eq]
  have hx : (x ≤ nI l - 1) = ¬ nI l ≤ x := by
    rw [Int32.le_iff_toInt_le, Int32.le_iff_toInt_le, nIT (show l < 2 ^ 31 by omega)]
    cases l with
    | zero =>
      show (x.toInt ≤ (-1 : Int32).toInt) = _
      rw [im1T]
      exact propext (by omega)
    | succ l =>
      rw [nI_pred, nIT (by omega)]
      exact propext (by omega)
  simp only [hx]
theorem ite01 (p : Prop) [Decidable p] : ((if p then (1 : Int32) else 0) = 0) = ¬ p := by
  by_cases c : p
  · simp [c]
  · simp [c]
theorem ite0or (p : Prop) [Decidable p] : ((if p then (1 : Int32) else 0) = 0 ∨ (if p then (1 : Int32) else 0) = 1) = True := by
  by_cases c : p
  · simp [c]
  · simp [c]
theorem ite0or2 (p : Prop) [Decidable p] : (¬ p ∨ (if p then (1 : Int32) else 0) = 1) = True := by
  by_cases c : p
  · simp [c]
  · simp [c]
/-- new signs of a field, in the reference -/
theorem RM.signs {σ τ : SG} {s : AS} {m : Nat} (hM : RM σ s) (hC : ∀ q, q < 40 → (s.2.2.1 q 0).length ≤ 30 ∧ (s.2.2.1 q 1).length ≤ 12) (hn : s.2.2.2 ≤ 40) (hm : m < s.2.2.2) (h1 : ∀ j, j ≠ 0 → j ≠ 28 → τ.1 275 j = σ.1 275 j) (hB : τ.2.2.2 = σ.2.2.2) (h2 : ∀ k, 276 ≤ k → k ≤ 305 → k ≠ 284 → k ≠ 285 → k ≠ 297 → k ≠ 298 → k ≠ 300 → k ≠ 302 → τ.2.2.1 k = σ.2.2.1 k) (h3 : ∀ c, c / 30 ≠ m → τ.2.2.1 284 c = σ.2.2.1 284 c) (h4 : ∀ c, c ≠ m → τ.2.2.1 285 c = σ.2.2.1 285 c) {l : List Int32} (h5 : τ.2.2.1 285 m = nI l.length) (h6 : ∀ j, j < l.length → τ.2.2.1 284 (30 * m + j) = l.getD j 0) (h7 : ∀ k, 305 < k → τ.2.2.1 k = σ.2.2.1 k) : RM τ (sQ s m 0 l) := by
  have hE : ∀ k, 276 ≤ k → k ≤ 296 → k ≠ 284 → k ≠ 285 → τ.2.2.1 k = σ.2.2.1 k := fun k a b c d => h2 k a (by omega) c d (by omega) (by omega) (by omega) (by omega)
  refine hM.one hC hn (i := m) (by omega) h1 (fun k c ha hb hc => ?_) (fun k ha hb hc => ?_) (fun k c hc => by rw [hB]) (fun _ => ?_) ?_ rfl (fun q hq => ⟨rfl, rfl, by funext j'; simp [sQ, hq]⟩) (fun q => rfl)
  · by_cases e4 : k = 284
    · subst e4; exact h3 c (by simpa [mcell] using hc)
    · by_cases e5 : k = 285
      · subst e5; exact h4 c (by simpa [mcell] using hc)
      · rw [hE k ha hb e4 e5]
  · by_cases e : k ≤ 305
    · exact h2 k (by omega) e (by omega) (by omega) (by omega) (by omega) hb hc
    · exact h7 k (by omega)
  · refine (hM.F hm).cong (s := s) (t := sQ s m 0 l) (fun k ha hb n1 n2 _ _ _ => by rw [hE k ha hb n1 n2]) ⟨by rw [hB], by rw [hB]⟩ rfl rfl (fun _ => ⟨rfl, rfl⟩)
  · obtain ⟨⟨d1, d2, d3, d4⟩, d5, ⟨d6, d7⟩, ⟨d8, d9⟩⟩ := hM.W (show m < 40 by omega)
    refine ⟨⟨?_, ?_, ?_, ?_⟩, fun j hj => ?_, ⟨by simpa [sQ] using h5, fun j hj => ?_⟩, ⟨?_, fun j hj => ?_⟩⟩
    · rw [hE _ (by omega) (by omega) (by omega) (by omega)]; exact d1
    · rw [hE _ (by omega) (by omega) (by omega) (by omega)]; exact d2
    · rw [hE _ (by omega) (by omega) (by omega) (by omega)]; exact d3
    · rw [hE _ (by omega) (by omega) (by omega) (by omega)]; exact d4
    · rw [hE _ (by omega) (by omega) (by omega) (by omega)]; exact d5 j hj
    · simp only [sQ, and_self, if_true] at hj ⊢
      exact h6 j hj
    · rw [hE _ (by omega) (by omega) (by omega) (by omega)]
      simpa [sQ] using d8
    · rw [hE _ (by omega) (by omega) (by omega) (by omega)]
      have := d9 j (by simpa [sQ] using hj)
      simpa [sQ] using this
/-- new codes of a field, in the reference -/
theorem RM.codes {σ τ : SG} {s : AS} {m : Nat} (hM : RM σ s) (hC : ∀ q, q < 40 → (s.2.2.1 q 0).length ≤ 30 ∧ (s.2.2.1 q 1).length ≤ 12) (hn : s.2.2.2 ≤ 40) (hm : m < s.2.2.2) (h1 : ∀ j, j ≠ 0 → j ≠ 28 → τ.1 275 j = σ.1 275 j) (hB : τ.2.2.2 = σ.2.2.2) (h2 : ∀ k, 276 ≤ k → k ≤ 305 → k ≠ 287 → k ≠ 288 → k ≠ 297 → k ≠ 298 → k ≠ 300 → k ≠ 302 → τ.2.2.1 k = σ.2.2.1 k) (h3 : ∀ c, c / 12 ≠ m → τ.2.2.1 287 c = σ.2.2.1 287 c) (h4 : ∀ c, c ≠ m → τ.2.2.1 288 c = σ.2.2.1 288 c) {l : List Int32} (h5 : τ.2.2.1 288 m = nI l.length) (h6 : ∀ j, j < l.length → τ.2.2.1 287 (12 * m + j) = l.getD j 0) (h7 : ∀ k, 305 < k → τ.2.2.1 k = σ.2.2.1 k) : RM τ (sQ s m 1 l) := by
  have hE : ∀ k, 276 ≤ k → k ≤ 296 → k ≠ 287 → k ≠ 288 → τ.2.2.1 k = σ.2.2.1 k := fun k a b c d => h2 k a (by omega) c d (by omega) (by omega) (by omega) (by omega)
  refine hM.one hC hn (i := m) (by omega) h1 (fun k c ha hb hc => ?_) (fun k ha hb hc => ?_) (fun k c hc => by rw [hB]) (fun _ => ?_) ?_ rfl (fun q hq => ⟨rfl, rfl, by funext j'; simp [sQ, hq]⟩) (fun q => rfl)
  · by_cases e4 : k = 287
    · subst e4; exact h3 c (by simpa [mcell] using hc)
    · by_cases e5 : k = 288
      · subst e5; exact h4 c (by simpa [mcell] using hc)
      · rw [hE k ha hb e4 e5]
  · by_cases e : k ≤ 305
    · exact h2 k (by omega) e (by omega) (by omega) (by omega) (by omega) hb hc
    · exact h7 k (by omega)
  · refine (hM.F hm).cong (s := s) (t := sQ s m 1 l) (fun k ha hb _ _ n1 n2 _ => by rw [hE k ha hb n1 n2]) ⟨by rw [hB], by rw [hB]⟩ rfl rfl (fun _ => ⟨rfl, rfl⟩)
  · obtain ⟨⟨d1, d2, d3, d4⟩, d5, ⟨d6, d7⟩, ⟨d8, d9⟩⟩ := hM.W (show m < 40 by omega)
    refine ⟨⟨?_, ?_, ?_, ?_⟩, fun j hj => ?_, ⟨?_, fun j hj => ?_⟩, ⟨by simpa [sQ] using h5, fun j hj => ?_⟩⟩
    · rw [hE _ (by omega) (by omega) (by omega) (by omega)]; exact d1
    · rw [hE _ (by omega) (by omega) (by omega) (by omega)]; exact d2
    · rw [hE _ (by omega) (by omega) (by omega) (by omega)]; exact d3
    · rw [hE _ (by omega) (by omega) (by omega) (by omega)]; exact d4
    · rw [hE _ (by omega) (by omega) (by omega) (by omega)]; exact d5 j hj
    · rw [hE _ (by omega) (by omega) (by omega) (by omega)]
      simpa [sQ] using d6
    · rw [hE _ (by omega) (by omega) (by omega) (by omega)]
      have := d7 j (by simpa [sQ] using hj)
      simpa [sQ] using this
    · simp only [sQ, and_self, if_true] at hj ⊢
      exact h6 j hj
