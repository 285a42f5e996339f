/-! THE ABSTRACT STATE, and what the class's and the reference's cells have to do with it -/
abbrev AS : Type := (Nat → Nat → Int32) × (Nat → Nat → Int64) × (Nat → Nat → List Int32) × Nat
def sA (s : AS) (i j : Nat) (x : Int32) : AS := (fun i' j' => if i' = i ∧ j' = j then x else s.1 i' j', s.2)
def sG (s : AS) (i j : Nat) (x : Int64) : AS := (s.1, fun i' j' => if i' = i ∧ j' = j then x else s.2.1 i' j', s.2.2)
def sQ (s : AS) (i j : Nat) (l : List Int32) : AS := (s.1, s.2.1, fun i' j' => if i' = i ∧ j' = j then l else s.2.2.1 i' j', s.2.2.2)
def agr (σ τ : SG) (k : Nat) : Prop := τ.1 k = σ.1 k ∧ τ.2.1 k = σ.2.1 k ∧ τ.2.2.1 k = σ.2.2.1 k ∧ τ.2.2.2 k = σ.2.2.2 k
def RLs (σ : SG) (s : AS) (r i j : Nat) : Prop := rok σ r ∧ rlist σ r = s.2.2.1 i j
def RF (σ : SG) (s : AS) (i : Nat) : Prop :=
  (∀ j, j < 20 → σ.1 (3 + 6 * i) j = s.1 i j) ∧ (∀ j, j < 8 → σ.2.2.1 (3 + 6 * i + 1) j = s.1 i (20 + j)) ∧ (∀ j, j < 20 → σ.2.1 (3 + 6 * i) j = s.2.1 i j) ∧ RLs σ s (3 + 6 * i + 2) i 0 ∧ RLs σ s (3 + 6 * i + 4) i 1
def RK (σ : SG) (s : AS) (k m i : Nat) : Prop :=
  σ.1 k 1 = nI m ∧ σ.1 k 2 = nI (s.2.2.1 i 0).length ∧ (s.2.2.1 i 0).length ≤ m ∧ ∀ w, w < 5 → (s.2.2.1 i w).length = (s.2.2.1 i 0).length ∧ ∀ j, j < (s.2.2.1 i 0).length → σ.2.2.1 (k + 1 + 1 + w) j = (s.2.2.1 i w).getD j 0
def RC (σ : SG) (s : AS) : Prop :=
  (s.2.2.2 ≤ 40 ∧ σ.1 1 1 = nI s.2.2.2) ∧ (∀ i, i < 40 → RF σ s i) ∧ (rok σ 244 ∧ rok σ 249 ∧ rok σ 256) ∧ (RLs σ s 251 40 0 ∧ RLs σ s 254 40 1 ∧ RLs σ s 259 40 2) ∧ RK σ s 261 31 41 ∧ RK σ s 268 400 42
theorem sbut.ag {ks : List Nat} {σ τ : SG} (h : sbut ks σ τ) {k : Nat} (hk : k ∉ ks) : agr σ τ k := h k hk
theorem RLs.cong {σ τ : SG} {s t : AS} {r i j : Nat} (h : RLs σ s r i j) (h1 : agr σ τ r) (h2 : agr σ τ (r + 1)) (hs : t.2.2.1 i j = s.2.2.1 i j) : RLs τ t r i j :=
  ⟨h.1.cong h1.1, by rw [(rlist_cong h1.1 h2.2.2.1).1, hs]; exact h.2⟩
theorem rok.ag {σ τ : SG} {r : Nat} (h : rok σ r) (h1 : agr σ τ r) : rok τ r := h.cong h1.1
theorem RF.cong {σ τ : SG} {s t : AS} {i : Nat} (h : RF σ s i) (h1 : ∀ k, 3 + 6 * i ≤ k → k < 9 + 6 * i → agr σ τ k) (a1 : t.1 i = s.1 i) (a2 : t.2.1 i = s.2.1 i) (a3 : t.2.2.1 i = s.2.2.1 i) : RF τ t i := by
  obtain ⟨b1, b2, b3, b4, b5⟩ := h
  refine ⟨fun j hj => ?_, fun j hj => ?_, fun j hj => ?_, ?_, ?_⟩
  · rw [(h1 _ (by omega) (by omega)).1, a1]; exact b1 j hj
  · rw [(h1 _ (by omega) (by omega)).2.2.1, a1]; exact b2 j hj
  · rw [(h1 _ (by omega) (by omega)).2.1, a2]; exact b3 j hj
  · exact b4.cong (h1 _ (by omega) (by omega)) (h1 _ (by omega) (by omega)) (by rw [a3])
  · exact b5.cong (h1 _ (by omega) (by omega)) (h1 _ (by omega) (by omega)) (by rw [a3])
theorem RK.cong {σ τ : SG} {s t : AS} {k m i : Nat} (h : RK σ s k m i) (h1 : ∀ q, k ≤ q → q < k + 7 → agr σ τ q) (a3 : t.2.2.1 i = s.2.2.1 i) : RK τ t k m i := by
  obtain ⟨b1, b2, b3, b4⟩ := h
  unfold RK
  rw [a3]
  refine ⟨by rw [(h1 _ (by omega) (by omega)).1]; exact b1, by rw [(h1 _ (by omega) (by omega)).1]; exact b2, b3, fun w hw => ⟨(b4 w hw).1, fun j hj => ?_⟩⟩
  rw [(h1 _ (by omega) (by omega)).2.2.1]
  exact (b4 w hw).2 j hj
theorem RC.n40 {σ : SG} {s : AS} (h : RC σ s) : s.2.2.2 ≤ 40 := h.1.1
theorem RC.nn {σ : SG} {s : AS} (h : RC σ s) : σ.1 1 1 = nI s.2.2.2 := h.1.2
theorem RC.F {σ : SG} {s : AS} (h : RC σ s) {i : Nat} (hi : i < 40) : RF σ s i := h.2.1 i hi
theorem RC.view {σ : SG} {s : AS} (h : RC σ s) : rok σ 244 := h.2.2.1.1
theorem RC.res {σ : SG} {s : AS} (h : RC σ s) : rok σ 249 := h.2.2.1.2.1
theorem RC.upw {σ : SG} {s : AS} (h : RC σ s) : rok σ 256 := h.2.2.1.2.2
theorem RC.fai {σ : SG} {s : AS} (h : RC σ s) : RLs σ s 251 40 0 := h.2.2.2.1.1
theorem RC.dat {σ : SG} {s : AS} (h : RC σ s) : RLs σ s 254 40 1 := h.2.2.2.1.2.1
theorem RC.inp {σ : SG} {s : AS} (h : RC σ s) : RLs σ s 259 40 2 := h.2.2.2.1.2.2
theorem RC.made {σ : SG} {s : AS} (h : RC σ s) : RK σ s 261 31 41 := h.2.2.2.2.1
theorem RC.kept {σ : SG} {s : AS} (h : RC σ s) : RK σ s 268 400 42 := h.2.2.2.2.2
theorem RC.sg {σ : SG} {s : AS} (h : RC σ s) {i : Nat} (hi : i < 40) : RLs σ s (3 + 6 * i + 2) i 0 := (h.F hi).2.2.2.1
theorem RC.cd {σ : SG} {s : AS} (h : RC σ s) {i : Nat} (hi : i < 40) : RLs σ s (3 + 6 * i + 4) i 1 := (h.F hi).2.2.2.2
/-- cells beyond the class do not matter -/
theorem RC.far {σ τ : SG} {s : AS} (h : RC σ s) (hq : ∀ k, k < 275 → agr σ τ k) : RC τ s :=
  ⟨⟨h.n40, by rw [(hq 1 (by omega)).1]; exact h.nn⟩, fun i hi => (h.F hi).cong (fun k _ _ => hq k (by omega)) rfl rfl rfl,
   ⟨h.view.ag (hq _ (by omega)), h.res.ag (hq _ (by omega)), h.upw.ag (hq _ (by omega))⟩,
   ⟨h.fai.cong (hq _ (by omega)) (hq _ (by omega)) rfl, h.dat.cong (hq _ (by omega)) (hq _ (by omega)) rfl, h.inp.cong (hq _ (by omega)) (hq _ (by omega)) rfl⟩,
   h.made.cong (fun q _ _ => hq q (by omega)) rfl, h.kept.cong (fun q _ _ => hq q (by omega)) rfl⟩
/-- the rows and arrays that the class only works in -/
theorem RC.work {σ τ : SG} {s : AS} (h : RC σ s) (hq : sbut [244, 245, 247, 248, 249, 250, 256, 257] σ τ) (h1 : rok τ 244) (h2 : rok τ 249) (h3 : rok τ 256) : RC τ s :=
  ⟨⟨h.n40, by rw [(hq.ag (k := 1) (by simp)).1]; exact h.nn⟩, fun i hi => (h.F hi).cong (fun k _ _ => hq.ag (by simp <;> omega)) rfl rfl rfl,
   ⟨h1, h2, h3⟩,
   ⟨h.fai.cong (hq.ag (by simp <;> omega)) (hq.ag (by simp <;> omega)) rfl, h.dat.cong (hq.ag (by simp <;> omega)) (hq.ag (by simp <;> omega)) rfl, h.inp.cong (hq.ag (by simp <;> omega)) (hq.ag (by simp <;> omega)) rfl⟩,
   h.made.cong (fun q _ _ => hq.ag (by simp <;> omega)) rfl, h.kept.cong (fun q _ _ => hq.ag (by simp <;> omega)) rfl⟩
/-- one field changes, in its own cells and in the abstract state alike -/
theorem RC.one {σ τ : SG} {s t : AS} (h : RC σ s) {i : Nat} (hi : i < 40) (hq : sbut [3 + 6 * i, 3 + 6 * i + 1, 3 + 6 * i + 2, 3 + 6 * i + 2 + 1, 3 + 6 * i + 4, 3 + 6 * i + 4 + 1] σ τ) (hF : RF τ t i) (hn : t.2.2.2 = s.2.2.2) (ht : ∀ q, q ≠ i → t.1 q = s.1 q ∧ t.2.1 q = s.2.1 q ∧ t.2.2.1 q = s.2.2.1 q) : RC τ t := by
  have hn' := h.n40
  refine ⟨⟨by rw [hn]; exact h.n40, by rw [(hq.ag (k := 1) (by simp <;> omega)).1, hn]; exact h.nn⟩, fun q hq' => ?_, ⟨h.view.ag (hq.ag (by simp <;> omega)), h.res.ag (hq.ag (by simp <;> omega)), h.upw.ag (hq.ag (by simp <;> omega))⟩, ⟨?_, ?_, ?_⟩, ?_, ?_⟩
  · by_cases e : q = i
    · rw [e]; exact hF
    · obtain ⟨a, b, c⟩ := ht q e
      exact (h.F hq').cong (fun k _ _ => hq.ag (by simp <;> omega)) a b c
  · exact h.fai.cong (hq.ag (by simp <;> omega)) (hq.ag (by simp <;> omega)) (by rw [(ht 40 (by omega)).2.2])
  · exact h.dat.cong (hq.ag (by simp <;> omega)) (hq.ag (by simp <;> omega)) (by rw [(ht 40 (by omega)).2.2])
  · exact h.inp.cong (hq.ag (by simp <;> omega)) (hq.ag (by simp <;> omega)) (by rw [(ht 40 (by omega)).2.2])
  · exact h.made.cong (fun q _ _ => hq.ag (by simp <;> omega)) (ht 41 (by omega)).2.2
  · exact h.kept.cong (fun q _ _ => hq.ag (by simp <;> omega)) (ht 42 (by omega)).2.2
theorem sA_n {s : AS} {i j j' : Nat} {x : Int32} (h : j' ≠ j) : s.1 i j' = (sA s i j x).1 i j' := by simp [sA, h]
theorem RC.I {σ : SG} {s : AS} (h : RC σ s) {i j : Nat} (hi : i < 40) (hj : j < 20) (x : Int32) : RC (uI σ (3 + 6 * i) j x) (sA s i j x) := by
  refine h.one hi (sbut.uI (by simp)) ?_ rfl (fun q hq => ⟨by funext j'; simp [sA, hq], rfl, rfl⟩)
  obtain ⟨b1, b2, b3, b4, b5⟩ := h.F hi
  refine ⟨fun j' hj' => ?_, fun j' hj' => ?_, b3, ?_, ?_⟩
  · by_cases e : j' = j
    · subst e; simp [uI, sA]
    · simp [uI, sA, e, b1 j' hj']
  · rw [← sA_n (by omega)]; exact b2 j' hj'
  · exact b4.cong ((sbut.uI (ks := [3 + 6 * i]) (by simp)).ag (by simp <;> omega)) ((sbut.uI (ks := [3 + 6 * i]) (by simp)).ag (by simp <;> omega)) rfl
  · exact b5.cong ((sbut.uI (ks := [3 + 6 * i]) (by simp)).ag (by simp <;> omega)) ((sbut.uI (ks := [3 + 6 * i]) (by simp)).ag (by simp <;> omega)) rfl
theorem RC.T {σ : SG} {s : AS} (h : RC σ s) {i j : Nat} (hi : i < 40) (hj : j < 8) (x : Int32) : RC (uA σ (3 + 6 * i + 1) j x) (sA s i (20 + j) x) := by
  refine h.one hi (sbut.uA (by simp)) ?_ rfl (fun q hq => ⟨by funext j'; simp [sA, hq], rfl, rfl⟩)
  obtain ⟨b1, b2, b3, b4, b5⟩ := h.F hi
  refine ⟨fun j' hj' => ?_, fun j' hj' => ?_, b3, ?_, ?_⟩
  · rw [← sA_n (by omega)]; exact b1 j' hj'
  · by_cases e : j' = j
    · subst e; simp [uA, sA]
    · simp [uA, sA, e, b2 j' hj']
  · exact b4.cong ((sbut.uA (ks := [3 + 6 * i + 1]) (by simp)).ag (by simp <;> omega)) ((sbut.uA (ks := [3 + 6 * i + 1]) (by simp)).ag (by simp <;> omega)) rfl
  · exact b5.cong ((sbut.uA (ks := [3 + 6 * i + 1]) (by simp)).ag (by simp <;> omega)) ((sbut.uA (ks := [3 + 6 * i + 1]) (by simp)).ag (by simp <;> omega)) rfl
theorem RC.G {σ : SG} {s : AS} (h : RC σ s) {i j : Nat} (hi : i < 40) (x : Int64) : RC (uG σ (3 + 6 * i) j x) (sG s i j x) := by
  refine h.one hi (sbut.uG (by simp)) ?_ rfl (fun q hq => ⟨rfl, by funext j'; simp [sG, hq], rfl⟩)
  obtain ⟨b1, b2, b3, b4, b5⟩ := h.F hi
  refine ⟨b1, b2, fun j' hj' => ?_, ?_, ?_⟩
  · by_cases e : j' = j
    · subst e; simp [uG, sG]
    · simp [uG, sG, e, b3 j' hj']
  · exact b4.cong ((sbut.uG (ks := [3 + 6 * i]) (by simp)).ag (by simp <;> omega)) ((sbut.uG (ks := [3 + 6 * i]) (by simp)).ag (by simp <;> omega)) rfl
  · exact b5.cong ((sbut.uG (ks := [3 + 6 * i]) (by simp)).ag (by simp <;> omega)) ((sbut.uG (ks := [3 + 6 * i]) (by simp)).ag (by simp <;> omega)) rfl
/-- a field's signs -/
theorem RC.S {σ τ : SG} {s : AS} (h : RC σ s) {i : Nat} (hi : i < 40) (hq : sbut [3 + 6 * i + 2, 3 + 6 * i + 2 + 1] σ τ) (hr : rok τ (3 + 6 * i + 2)) {l : List Int32} (hl : rlist τ (3 + 6 * i + 2) = l) : RC τ (sQ s i 0 l) := by
  refine h.one hi (hq.wk (by simp)) ?_ rfl (fun q hq => ⟨rfl, rfl, by funext j'; simp [sQ, hq]⟩)
  obtain ⟨b1, b2, b3, b4, b5⟩ := h.F hi
  refine ⟨fun j' hj' => ?_, fun j' hj' => ?_, fun j' hj' => ?_, ⟨hr, by simp [sQ, hl]⟩, ?_⟩
  · rw [(hq.ag (by simp <;> omega)).1]; exact b1 j' hj'
  · rw [(hq.ag (by simp <;> omega)).2.2.1]; exact b2 j' hj'
  · rw [(hq.ag (by simp <;> omega)).2.1]; exact b3 j' hj'
  · exact b5.cong (hq.ag (by simp <;> omega)) (hq.ag (by simp <;> omega)) (by simp [sQ])
/-- a field's codes -/
theorem RC.O {σ τ : SG} {s : AS} (h : RC σ s) {i : Nat} (hi : i < 40) (hq : sbut [3 + 6 * i + 4, 3 + 6 * i + 4 + 1] σ τ) (hr : rok τ (3 + 6 * i + 4)) {l : List Int32} (hl : rlist τ (3 + 6 * i + 4) = l) : RC τ (sQ s i 1 l) := by
  refine h.one hi (hq.wk (by simp)) ?_ rfl (fun q hq => ⟨rfl, rfl, by funext j'; simp [sQ, hq]⟩)
  obtain ⟨b1, b2, b3, b4, b5⟩ := h.F hi
  refine ⟨fun j' hj' => ?_, fun j' hj' => ?_, fun j' hj' => ?_, ?_, ⟨hr, by simp [sQ, hl]⟩⟩
  · rw [(hq.ag (by simp <;> omega)).1]; exact b1 j' hj'
  · rw [(hq.ag (by simp <;> omega)).2.2.1]; exact b2 j' hj'
  · rw [(hq.ag (by simp <;> omega)).2.1]; exact b3 j' hj'
  · exact b4.cong (hq.ag (by simp <;> omega)) (hq.ag (by simp <;> omega)) (by simp [sQ])
/-- the rows of the whole: failures, data, input -/
theorem RC.row {σ τ : SG} {s : AS} (h : RC σ s) {r j : Nat} (hj : (r = 251 ∧ j = 0) ∨ (r = 254 ∧ j = 1) ∨ (r = 259 ∧ j = 2)) (hq : sbut [r, r + 1] σ τ) (hr : rok τ r) {l : List Int32} (hl : rlist τ r = l) : RC τ (sQ s 40 j l) := by
  refine ⟨⟨h.n40, by rw [(hq.ag (k := 1) (by simp <;> omega)).1]; exact h.nn⟩, fun q hq' => (h.F hq').cong (fun k _ _ => hq.ag (by simp <;> omega)) rfl rfl (by funext j'; simp [sQ]; omega), ⟨h.view.ag (hq.ag (by simp <;> omega)), h.res.ag (hq.ag (by simp <;> omega)), h.upw.ag (hq.ag (by simp <;> omega))⟩, ?_, ?_, ?_⟩
  · rcases hj with ⟨rfl, rfl⟩ | ⟨rfl, rfl⟩ | ⟨rfl, rfl⟩
    · exact ⟨⟨hr, by simp [sQ, hl]⟩, h.dat.cong (hq.ag (by simp <;> omega)) (hq.ag (by simp <;> omega)) (by simp [sQ]), h.inp.cong (hq.ag (by simp <;> omega)) (hq.ag (by simp <;> omega)) (by simp [sQ])⟩
    · exact ⟨h.fai.cong (hq.ag (by simp <;> omega)) (hq.ag (by simp <;> omega)) (by simp [sQ]), ⟨hr, by simp [sQ, hl]⟩, h.inp.cong (hq.ag (by simp <;> omega)) (hq.ag (by simp <;> omega)) (by simp [sQ])⟩
    · exact ⟨h.fai.cong (hq.ag (by simp <;> omega)) (hq.ag (by simp <;> omega)) (by simp [sQ]), h.dat.cong (hq.ag (by simp <;> omega)) (hq.ag (by simp <;> omega)) (by simp [sQ]), ⟨hr, by simp [sQ, hl]⟩⟩
  · exact h.made.cong (fun q _ _ => hq.ag (by simp <;> omega)) (by funext j'; simp [sQ])
  · exact h.kept.cong (fun q _ _ => hq.ag (by simp <;> omega)) (by funext j'; simp [sQ])

theorem c_0 {h : Nat} {σ : SG} {s : AS} {i : Nat} (hC : RC σ s) (hi : i < 40) : gI (HH h σ) (h + (3 + 6 * i)) 1 0 = some (s.1 i 0) := by rw [g_1_0 (kd_F hi), (hC.F hi).1 0 (by omega)]
theorem c_1 {h : Nat} {σ : SG} {s : AS} {i : Nat} (hC : RC σ s) (hi : i < 40) : gI (HH h σ) (h + (3 + 6 * i)) 1 1 = some (s.1 i 1) := by rw [g_1_1 (kd_F hi), (hC.F hi).1 1 (by omega)]
theorem c_2 {h : Nat} {σ : SG} {s : AS} {i : Nat} (hC : RC σ s) (hi : i < 40) : gI (HH h σ) (h + (3 + 6 * i)) 1 2 = some (s.1 i 2) := by rw [g_1_2 (kd_F hi), (hC.F hi).1 2 (by omega)]
theorem c_3 {h : Nat} {σ : SG} {s : AS} {i : Nat} (hC : RC σ s) (hi : i < 40) : gI (HH h σ) (h + (3 + 6 * i)) 1 3 = some (s.1 i 3) := by rw [g_1_3 (kd_F hi), (hC.F hi).1 3 (by omega)]
theorem c_4 {h : Nat} {σ : SG} {s : AS} {i : Nat} (hC : RC σ s) (hi : i < 40) : gI (HH h σ) (h + (3 + 6 * i)) 1 4 = some (s.1 i 4) := by rw [g_1_4 (kd_F hi), (hC.F hi).1 4 (by omega)]
theorem c_5 {h : Nat} {σ : SG} {s : AS} {i : Nat} (hC : RC σ s) (hi : i < 40) : gI (HH h σ) (h + (3 + 6 * i)) 1 5 = some (s.1 i 5) := by rw [g_1_5 (kd_F hi), (hC.F hi).1 5 (by omega)]
theorem c_6 {h : Nat} {σ : SG} {s : AS} {i : Nat} (hC : RC σ s) (hi : i < 40) : gI (HH h σ) (h + (3 + 6 * i)) 1 6 = some (s.1 i 6) := by rw [g_1_6 (kd_F hi), (hC.F hi).1 6 (by omega)]
theorem c_10 {h : Nat} {σ : SG} {s : AS} {i : Nat} (hC : RC σ s) (hi : i < 40) : gI (HH h σ) (h + (3 + 6 * i)) 1 10 = some (s.1 i 10) := by rw [g_1_10 (kd_F hi), (hC.F hi).1 10 (by omega)]
theorem c_13 {h : Nat} {σ : SG} {s : AS} {i : Nat} (hC : RC σ s) (hi : i < 40) : gI (HH h σ) (h + (3 + 6 * i)) 1 13 = some (s.1 i 13) := by rw [g_1_13 (kd_F hi), (hC.F hi).1 13 (by omega)]
theorem c_14 {h : Nat} {σ : SG} {s : AS} {i : Nat} (hC : RC σ s) (hi : i < 40) : gI (HH h σ) (h + (3 + 6 * i)) 1 14 = some (s.1 i 14) := by rw [g_1_14 (kd_F hi), (hC.F hi).1 14 (by omega)]
theorem c_15 {h : Nat} {σ : SG} {s : AS} {i : Nat} (hC : RC σ s) (hi : i < 40) : gI (HH h σ) (h + (3 + 6 * i)) 1 15 = some (s.1 i 15) := by rw [g_1_15 (kd_F hi), (hC.F hi).1 15 (by omega)]
theorem c_16 {h : Nat} {σ : SG} {s : AS} {i : Nat} (hC : RC σ s) (hi : i < 40) : gI (HH h σ) (h + (3 + 6 * i)) 1 16 = some (s.1 i 16) := by rw [g_1_16 (kd_F hi), (hC.F hi).1 16 (by omega)]
theorem c_11 {h : Nat} {σ : SG} {s : AS} {i : Nat} (hC : RC σ s) (hi : i < 40) : gL (HH h σ) (h + (3 + 6 * i)) 1 11 = some (s.2.1 i 11) := by rw [g_1_11 (kd_F hi), (hC.F hi).2.2.1 11 (by omega)]
theorem c_12 {h : Nat} {σ : SG} {s : AS} {i : Nat} (hC : RC σ s) (hi : i < 40) : gL (HH h σ) (h + (3 + 6 * i)) 1 12 = some (s.2.1 i 12) := by rw [g_1_12 (kd_F hi), (hC.F hi).2.2.1 12 (by omega)]
theorem c_t0 {h : Nat} {σ : SG} {s : AS} {i : Nat} (hC : RC σ s) (hi : i < 40) : aI (HH h σ) (h + (3 + 6 * i + 1)) 0 (0 : Int32) = some (s.1 i 20) := by
  rw [a_0 (kd_T hi), ln_T hi, if_pos (by decide)]
  exact congrArg some ((hC.F hi).2.1 0 (by omega))
theorem c_t1 {h : Nat} {σ : SG} {s : AS} {i : Nat} (hC : RC σ s) (hi : i < 40) : aI (HH h σ) (h + (3 + 6 * i + 1)) 0 (1 : Int32) = some (s.1 i 21) := by
  rw [a_0 (kd_T hi), ln_T hi, if_pos (by decide)]
  exact congrArg some ((hC.F hi).2.1 1 (by omega))
theorem c_t2 {h : Nat} {σ : SG} {s : AS} {i : Nat} (hC : RC σ s) (hi : i < 40) : aI (HH h σ) (h + (3 + 6 * i + 1)) 0 (2 : Int32) = some (s.1 i 22) := by
  rw [a_0 (kd_T hi), ln_T hi, if_pos (by decide)]
  exact congrArg some ((hC.F hi).2.1 2 (by omega))
theorem c_t3 {h : Nat} {σ : SG} {s : AS} {i : Nat} (hC : RC σ s) (hi : i < 40) : aI (HH h σ) (h + (3 + 6 * i + 1)) 0 (3 : Int32) = some (s.1 i 23) := by
  rw [a_0 (kd_T hi), ln_T hi, if_pos (by decide)]
  exact congrArg some ((hC.F hi).2.1 3 (by omega))
theorem c_t4 {h : Nat} {σ : SG} {s : AS} {i : Nat} (hC : RC σ s) (hi : i < 40) : aI (HH h σ) (h + (3 + 6 * i + 1)) 0 (4 : Int32) = some (s.1 i 24) := by
  rw [a_0 (kd_T hi), ln_T hi, if_pos (by decide)]
  exact congrArg some ((hC.F hi).2.1 4 (by omega))
theorem c_t5 {h : Nat} {σ : SG} {s : AS} {i : Nat} (hC : RC σ s) (hi : i < 40) : aI (HH h σ) (h + (3 + 6 * i + 1)) 0 (5 : Int32) = some (s.1 i 25) := by
  rw [a_0 (kd_T hi), ln_T hi, if_pos (by decide)]
  exact congrArg some ((hC.F hi).2.1 5 (by omega))
theorem c_t6 {h : Nat} {σ : SG} {s : AS} {i : Nat} (hC : RC σ s) (hi : i < 40) : aI (HH h σ) (h + (3 + 6 * i + 1)) 0 (6 : Int32) = some (s.1 i 26) := by
  rw [a_0 (kd_T hi), ln_T hi, if_pos (by decide)]
  exact congrArg some ((hC.F hi).2.1 6 (by omega))
theorem c_t7 {h : Nat} {σ : SG} {s : AS} {i : Nat} (hC : RC σ s) (hi : i < 40) : aI (HH h σ) (h + (3 + 6 * i + 1)) 0 (7 : Int32) = some (s.1 i 27) := by
  rw [a_0 (kd_T hi), ln_T hi, if_pos (by decide)]
  exact congrArg some ((hC.F hi).2.1 7 (by omega))
theorem c_n {h : Nat} {σ : SG} {s : AS} (hC : RC σ s) : gI (HH h σ) (h + 1) 5 1 = some (nI s.2.2.2) := by rw [g_5_1 rfl, hC.nn]
