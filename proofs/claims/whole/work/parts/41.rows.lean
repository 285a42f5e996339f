/-! ROWS, as the class has them -/
theorem ln_le (k : Nat) : ln k ≤ 8000 := by
  unfold ln
  repeat' split
  all_goals omega
def rc (σ : SG) (r : Nat) : Nat := (σ.1 r 1).toNatClampNeg
def rit (σ : SG) (r j : Nat) : Int32 := σ.2.2.1 (r + 1) j
def rok (σ : SG) (r : Nat) : Prop := kd r = 4 ∧ kd (r + 1) = 10 ∧ σ.1 r 1 = nI (rc σ r) ∧ rc σ r ≤ ln (r + 1)
def rpush (σ : SG) (r : Nat) (x : Int32) : SG := if rc σ r < ln (r + 1) then uI (uA σ (r + 1) (rc σ r) x) r 1 (nI (rc σ r + 1)) else σ
def rapp (σ : SG) (r : Nat) : List Int32 → SG
  | [] => σ
  | x :: xs => rapp (rpush σ r x) r xs
def rlist (σ : SG) (r : Nat) : List Int32 := (List.range (rc σ r)).map (rit σ r)
theorem clN (x : Int32) : x.toNatClampNeg = x.toInt.toNat := rfl
theorem nIT {n : Nat} (h : n < 2 ^ 31) : (nI n).toInt = (n : Int) := nI_toInt h
theorem i0T : (0 : Int32).toInt = 0 := rfl
theorem i1T : (1 : Int32).toInt = 1 := rfl
theorem im1T : (-1 : Int32).toInt = -1 := rfl
theorem e_count {N h : Nat} {σ : SG} {r : Nat} (hr : kd r = 4) : DX5_count N (h + r) (HH h σ) = some (σ.1 r 1) := by
  unfold DX5_count
  rw [ck_4 hr]
  simp only [Option.bind_some]
  rw [g_4_1 hr]
  rfl
theorem e_has {N h : Nat} {σ : SG} {r : Nat} (hr : kd r = 4) (i : Int32) : DX5_has N (h + r) i (HH h σ) = some (if ¬ i < 0 ∧ ¬ σ.1 r 1 ≤ i then 1 else 0) := by
  unfold DX5_has
  rw [ck_4 hr]
  simp only [Option.bind_some]
  rw [g_4_1 hr]
  simp only [Option.bind_some]
  by_cases c1 : i < 0
  · simp [c1]
  · by_cases c2 : σ.1 r 1 ≤ i
    · simp [c1, c2]
    · simp [c1, c2]
theorem e_get {N h : Nat} {σ : SG} {r : Nat} (hr : rok σ r) (i : Int32) : DX5_get N (h + r) i (HH h σ) = some (if ¬ i < 0 ∧ ¬ nI (rc σ r) ≤ i then rit σ r i.toNatClampNeg else -1) := by
  obtain ⟨h1, h2, h3, h4⟩ := hr
  have hl := ln_le (r + 1)
  unfold DX5_get
  rw [ck_4 h1]
  simp only [Option.bind_some]
  rw [g_4_1 h1, h3]
  simp only [Option.bind_some]
  rw [g_4_0 h1]
  simp only [Option.bind_some]
  rw [al_0 h2, a_0 h2]
  simp only [Option.bind_some]
  by_cases c1 : i < 0
  · simp [c1]
  · by_cases c2 : nI (rc σ r) ≤ i
    · simp [c1, c2]
    · have c3 : ¬ nI (ln (r + 1)) ≤ i := by
        rw [Int32.le_iff_toInt_le, nIT (by omega)] at c2 ⊢
        omega
      have c4 : i.toNatClampNeg < ln (r + 1) := by
        rw [Int32.le_iff_toInt_le, nIT (by omega)] at c2
        rw [Int32.lt_iff_toInt_lt, i0T] at c1
        rw [clN]
        omega
      simp [c1, c2, c3, c4, rit]
theorem e_getN {N h : Nat} {σ : SG} {r : Nat} (hr : rok σ r) {j : Nat} (hj : j < rc σ r) : DX5_get N (h + r) (nI j) (HH h σ) = some (rit σ r j) := by
  have hl := ln_le (r + 1)
  have h4 := hr.2.2.2
  rw [e_get hr, if_pos ⟨nI_pos (by omega), nI_ge hj (by omega)⟩, nI_clamp (by omega)]
theorem e_clear {N h : Nat} {σ : SG} {r : Nat} (hr : kd r = 4) : DX5_clear N (h + r) (HH h σ) = some ((), HH h (uI σ r 1 0)) := by
  unfold DX5_clear
  rw [ck_4 hr]
  simp only [Option.bind_some]
  rw [p_4_1 hr]
  rfl
theorem e_add {N h : Nat} {σ : SG} {r : Nat} (hr : rok σ r) (x : Int32) : DX5_add N (h + r) x (HH h σ) = some (if rc σ r < ln (r + 1) then 1 else 0, HH h (rpush σ r x)) := by
  obtain ⟨h1, h2, h3, h4⟩ := hr
  have hl := ln_le (r + 1)
  unfold DX5_add
  rw [ck_4 h1]
  simp only [Option.bind_some]
  rw [g_4_1 h1, h3]
  simp only [Option.bind_some]
  rw [g_4_0 h1]
  simp only [Option.bind_some]
  rw [al_0 h2]
  simp only [Option.bind_some]
  rw [if_neg (nI_pos (by omega))]
  unfold rpush
  by_cases c : rc σ r < ln (r + 1)
  · rw [if_pos (nI_lt c (by omega)), s_0 h2, if_pos ⟨nI_pos (by omega), by rw [nI_clamp (by omega)]; exact c⟩]
    simp only [Option.bind_some]
    rw [g_4_1 h1]
    simp only [Option.bind_some]
    rw [p_4_1 h1]
    simp only [Option.bind_some]
    rw [if_pos c, if_pos c, nI_clamp (by omega)]
    have e : (uA σ (r + 1) (rc σ r) x).1 r 1 = nI (rc σ r) := h3
    rw [e, nI_1]
  · rw [if_neg (by rw [nI_ltI (by omega) (by omega)]; exact c), if_neg c, if_neg c]
/-! what pushing does -/
theorem uI_at (σ : SG) (k j : Nat) (x : Int32) : (uI σ k j x).1 k j = x := by simp [uI]
theorem uI_ne (σ : SG) (k j : Nat) (x : Int32) {k' j' : Nat} (h : ¬ (k' = k ∧ j' = j)) : (uI σ k j x).1 k' j' = σ.1 k' j' := by simp only [uI]; rw [if_neg h]
theorem uA_at (σ : SG) (k j : Nat) (x : Int32) : (uA σ k j x).2.2.1 k j = x := by simp [uA]
theorem uA_ne (σ : SG) (k j : Nat) (x : Int32) {k' j' : Nat} (h : ¬ (k' = k ∧ j' = j)) : (uA σ k j x).2.2.1 k' j' = σ.2.2.1 k' j' := by simp only [uA]; rw [if_neg h]
/-- the same but for the cells ks -/
def sbut (ks : List Nat) (σ τ : SG) : Prop := ∀ k, k ∉ ks → τ.1 k = σ.1 k ∧ τ.2.1 k = σ.2.1 k ∧ τ.2.2.1 k = σ.2.2.1 k ∧ τ.2.2.2 k = σ.2.2.2 k
theorem sbut.rf {ks : List Nat} {σ : SG} : sbut ks σ σ := fun _ _ => ⟨rfl, rfl, rfl, rfl⟩
theorem sbut.tr {ks : List Nat} {σ τ υ : SG} (h1 : sbut ks σ τ) (h2 : sbut ks τ υ) : sbut ks σ υ := fun k hk => by
  obtain ⟨a1, a2, a3, a4⟩ := h1 k hk
  obtain ⟨b1, b2, b3, b4⟩ := h2 k hk
  exact ⟨b1.trans a1, b2.trans a2, b3.trans a3, b4.trans a4⟩
theorem sbut.wk {ks ks' : List Nat} {σ τ : SG} (h : sbut ks σ τ) (hs : ∀ k ∈ ks, k ∈ ks') : sbut ks' σ τ := fun k hk => h k (fun q => hk (hs k q))
theorem sbut.uI {ks : List Nat} {σ : SG} {k j : Nat} {x : Int32} (h : k ∈ ks) : sbut ks σ (uI σ k j x) := fun k' hk => by
  obtain ⟨a, b, c, d⟩ := uI_off σ k j x k' (fun e => hk (by rw [e]; exact h))
  exact ⟨a.symm, b.symm, c.symm, d.symm⟩
theorem sbut.uG {ks : List Nat} {σ : SG} {k j : Nat} {x : Int64} (h : k ∈ ks) : sbut ks σ (uG σ k j x) := fun k' hk => by
  obtain ⟨a, b, c, d⟩ := uG_off σ k j x k' (fun e => hk (by rw [e]; exact h))
  exact ⟨a.symm, b.symm, c.symm, d.symm⟩
theorem sbut.uA {ks : List Nat} {σ : SG} {k j : Nat} {x : Int32} (h : k ∈ ks) : sbut ks σ (uA σ k j x) := fun k' hk => by
  obtain ⟨a, b, c, d⟩ := uA_off σ k j x k' (fun e => hk (by rw [e]; exact h))
  exact ⟨a.symm, b.symm, c.symm, d.symm⟩
theorem sbut.uB {ks : List Nat} {σ : SG} {k j : Nat} {x : Int64} (h : k ∈ ks) : sbut ks σ (uB σ k j x) := fun k' hk => by
  obtain ⟨a, b, c, d⟩ := uB_off σ k j x k' (fun e => hk (by rw [e]; exact h))
  exact ⟨a.symm, b.symm, c.symm, d.symm⟩
theorem rpush_but (σ : SG) (r : Nat) (x : Int32) : sbut [r, r + 1] σ (rpush σ r x) := by
  unfold rpush
  split
  · exact (sbut.uA (by simp)).tr (sbut.uI (by simp))
  · exact sbut.rf
theorem rapp_but (r : Nat) : ∀ (xs : List Int32) (σ : SG), sbut [r, r + 1] σ (rapp σ r xs)
  | [], σ => sbut.rf
  | x :: xs, σ => (rpush_but σ r x).tr (rapp_but r xs (rpush σ r x))
theorem rapp_app (r : Nat) : ∀ (xs ys : List Int32) (σ : SG), rapp σ r (xs ++ ys) = rapp (rapp σ r xs) r ys
  | [], ys, σ => rfl
  | x :: xs, ys, σ => rapp_app r xs ys (rpush σ r x)
theorem rpush_rc {σ : SG} {r : Nat} {x : Int32} (c : rc σ r < ln (r + 1)) : rc (rpush σ r x) r = rc σ r + 1 := by
  have hl := ln_le (r + 1)
  unfold rpush
  rw [if_pos c]
  unfold rc
  rw [uI_at]
  exact nI_clamp (by unfold rc at c; omega)
theorem rpush_ok {σ : SG} {r : Nat} (x : Int32) (hr : rok σ r) : rok (rpush σ r x) r := by
  have hl := ln_le (r + 1)
  by_cases c : rc σ r < ln (r + 1)
  · refine ⟨hr.1, hr.2.1, ?_, by rw [rpush_rc c]; omega⟩
    rw [rpush_rc c]
    unfold rpush
    rw [if_pos c, uI_at]
  · unfold rpush
    rw [if_neg c]
    exact hr
theorem rapp_ok {r : Nat} : ∀ (xs : List Int32) {σ : SG}, rok σ r → rok (rapp σ r xs) r
  | [], _, h => h
  | x :: xs, σ, h => rapp_ok xs (rpush_ok x h)
theorem rpush_list {σ : SG} {r : Nat} {x : Int32} (c : rc σ r < ln (r + 1)) : rlist (rpush σ r x) r = rlist σ r ++ [x] := by
  unfold rlist
  rw [rpush_rc c, List.range_succ, List.map_append]
  congr 1
  · apply List.map_congr_left
    intro j hj
    have hj' := List.mem_range.mp hj
    unfold rpush rit
    rw [if_pos c]
    show (uA σ (r + 1) (rc σ r) x).2.2.1 (r + 1) j = _
    exact uA_ne _ _ _ _ (by omega)
  · unfold rpush rit
    rw [if_pos c]
    show [(uA σ (r + 1) (rc σ r) x).2.2.1 (r + 1) (rc σ r)] = _
    rw [uA_at]
theorem rlist_len (σ : SG) (r : Nat) : (rlist σ r).length = rc σ r := by simp [rlist]
theorem rapp_list {r : Nat} : ∀ (xs : List Int32) {σ : SG}, rc σ r + xs.length ≤ ln (r + 1) → rlist (rapp σ r xs) r = rlist σ r ++ xs
  | [], σ, _ => by simp [rapp]
  | x :: xs, σ, h => by
    simp only [List.length_cons] at h
    have c : rc σ r < ln (r + 1) := by omega
    show rlist (rapp (rpush σ r x) r xs) r = _
    rw [rapp_list xs (by rw [rpush_rc c]; omega), rpush_list c]
    simp
theorem rapp_rc {r : Nat} (xs : List Int32) {σ : SG} (h : rc σ r + xs.length ≤ ln (r + 1)) : rc (rapp σ r xs) r = rc σ r + xs.length := by
  rw [← rlist_len, rapp_list xs h, List.length_append, rlist_len]
theorem rclear_ok {σ : SG} {r : Nat} (hr : rok σ r) : rok (uI σ r 1 0) r := by
  have e : rc (uI σ r 1 0) r = 0 := by unfold rc; rw [uI_at]; rfl
  exact ⟨hr.1, hr.2.1, by rw [e, uI_at]; rfl, by rw [e]; omega⟩
theorem rclear_rc (σ : SG) (r : Nat) : rc (uI σ r 1 0) r = 0 := by unfold rc; rw [uI_at]; rfl
theorem rclear_list (σ : SG) (r : Nat) : rlist (uI σ r 1 0) r = [] := by unfold rlist; rw [rclear_rc]; rfl
theorem rlist_get {σ : SG} {r j : Nat} (hj : j < rc σ r) : (rlist σ r)[j]? = some (rit σ r j) := by
  unfold rlist
  rw [List.getElem?_map, List.getElem?_range hj]
  rfl
theorem rlist_cong {σ τ : SG} {r : Nat} (h1 : τ.1 r = σ.1 r) (h2 : τ.2.2.1 (r + 1) = σ.2.2.1 (r + 1)) : rlist τ r = rlist σ r ∧ rc τ r = rc σ r := by
  have e : rc τ r = rc σ r := by unfold rc; rw [h1]
  refine ⟨?_, e⟩
  unfold rlist
  rw [e]
  apply List.map_congr_left
  intro j _
  unfold rit
  rw [h2]
theorem rok.cong {σ τ : SG} {r : Nat} (hr : rok σ r) (h1 : τ.1 r = σ.1 r) : rok τ r := by
  have e : rc τ r = rc σ r := by unfold rc; rw [h1]
  exact ⟨hr.1, hr.2.1, by rw [e, h1]; exact hr.2.2.1, by rw [e]; exact hr.2.2.2⟩
/-- the first place of x in the row, or -1 -/
def fnd (x : Int32) : List Int32 → Nat → Int32
  | [], _ => -1
  | y :: ys, j => if y = x then nI j else fnd x ys (j + 1)
theorem e_find2 {N h : Nat} {σ : SG} {r : Nat} (hr : rok σ r) (x : Int32) : ∀ (w j : Nat), j ≤ rc σ r → rc σ r - j < w → DX5_find_2 N (HH h σ) w (h + r) x (nI j) = some (fnd x ((rlist σ r).drop j) j) := by
  intro w
  have hl := ln_le (r + 1)
  have h4 := hr.2.2.2
  induction w with
  | zero => intro j _ hw; omega
  | succ w ih =>
    intro j hj hw
    rw [DX5_find_2, g_4_1 hr.1, hr.2.2.1]
    simp only [Option.bind_some]
    by_cases c : rc σ r ≤ j
    · have ej : j = rc σ r := by omega
      rw [if_pos (nI_le c (by omega)), List.drop_eq_nil_of_le (by rw [rlist_len]; omega)]
      rfl
    · have hlt : j < rc σ r := by omega
      rw [if_neg (nI_ge hlt (by omega)), e_getN hr hlt]
      simp only [Option.bind_some]
      have hd : (rlist σ r).drop j = rit σ r j :: (rlist σ r).drop (j + 1) := by
        rw [List.drop_eq_getElem_cons (by rw [rlist_len]; exact hlt)]
        congr 1
        have := rlist_get hlt
        rw [List.getElem?_eq_getElem (by rw [rlist_len]; exact hlt)] at this
        exact Option.some.inj this
      rw [hd]
      simp only [fnd]
      by_cases e : rit σ r j = x
      · rw [if_pos e, if_pos e]
      · rw [if_neg e, if_neg e, nI_1, ih (j + 1) (by omega) (by omega)]
theorem e_find {N h : Nat} {σ : SG} {r : Nat} (hr : rok σ r) (x : Int32) (hN : 8001 ≤ N) : DX5_find N (h + r) x (HH h σ) = some (fnd x (rlist σ r) 0) := by
  have hl := ln_le (r + 1)
  have h4 := hr.2.2.2
  unfold DX5_find
  rw [ck_4 hr.1]
  simp only [Option.bind_some]
  have := e_find2 (N := N) (h := h) hr x N 0 (by omega) (by omega)
  rw [nI_0] at this
  rw [this, List.drop_zero]
