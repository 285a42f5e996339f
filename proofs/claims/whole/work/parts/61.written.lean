/-! AMOUNTS AS THEY ARE WRITTEN -/
theorem le0V {v : Int} (h : -9000000000000000 ≤ v ∧ v ≤ 9000000000000000) : ((0 : Int64) ≤ Int64.ofInt v) = (0 ≤ v) := by
  rw [Int64.le_iff_toInt_le, ofI h]
  rfl
theorem posV {v : Int} (h : 0 ≤ v) : Int64.ofInt v = lN v.natAbs := by
  obtain ⟨n, rfl⟩ := Int.eq_ofNat_of_zero_le h
  rfl
theorem negV {v : Int} (h : v < 0) : -Int64.ofInt v = lN v.natAbs := by
  rw [← Int64.ofInt_neg]
  have : -v = ((v.natAbs : Nat) : Int) := by omega
  rw [this]
  rfl
theorem abV {v : Int} (h : -9000000000000000 ≤ v ∧ v ≤ 9000000000000000) : abL (Int64.ofInt v) = lN v.natAbs := by
  unfold abL
  by_cases c : 0 < v
  · rw [if_pos (by rw [Int64.lt_iff_toInt_lt, ofI h]; exact c), posV (by omega)]
  · rw [if_neg (by rw [Int64.lt_iff_toInt_lt, ofI h]; exact c)]
    by_cases d : v < 0
    · exact negV d
    · have : v = 0 := by omega
      subst this
      rfl
def fracL (p : Nat) : List Int32 := if p = 0 then [] else 46 :: nI (48 + p / 100) :: (if p % 100 = 0 then [] else nI (48 + p % 100 / 10) :: (if p % 10 = 0 then [] else [nI (48 + p % 10)]))
def wrL (v : Int) : List Int32 := (if v < 0 then [45] else []) ++ (numL (v.natAbs / 1000) false ++ fracL (v.natAbs % 1000))
theorem fracL_len (p : Nat) : (fracL p).length ≤ 4 := by
  unfold fracL
  split
  · simp
  · split
    · simp
    · split <;> simp
theorem wrL_len {v : Int} (h : -999999999999 ≤ v ∧ v ≤ 999999999999) : (wrL v).length ≤ 14 := by
  unfold wrL
  have h1 := fracL_len (v.natAbs % 1000)
  have h2 := numL_f (n := v.natAbs / 1000) (k := 9) (by omega) (by omega)
  simp only [List.length_append]
  split <;> simp <;> omega
theorem fracL_1 {p : Nat} (h : p < 1000) (h0 : ¬ p = 0) (h1 : p % 100 = 0) : partL (p / 10 / 10) 1 = fracL p := by
  unfold partL fracL
  rw [if_neg (by omega), if_neg h0, if_pos h1]
  simp only [nl, dig, Nat.pow_zero, Nat.div_one]
  have : 48 + p / 10 / 10 % 10 = 48 + p / 100 := by omega
  rw [this]
  simp
theorem fracL_2 {p : Nat} (h : p < 1000) (h1 : ¬ p % 100 = 0) (h2 : p % 10 = 0) : partL (p / 10) 2 = fracL p := by
  unfold partL fracL
  rw [if_neg (by omega), if_neg (by omega), if_neg h1, if_pos h2]
  simp only [nl, dig, Nat.pow_zero, Nat.div_one, Nat.pow_one]
  have e1 : 48 + p / 10 / 10 % 10 = 48 + p / 100 := by omega
  have e2 : 48 + p / 10 % 10 = 48 + p % 100 / 10 := by omega
  rw [e1, e2]
  simp
theorem fracL_3 {p : Nat} (h : p < 1000) (h2 : ¬ p % 10 = 0) : partL p 3 = fracL p := by
  unfold partL fracL
  rw [if_neg (by omega), if_neg (by omega), if_neg (by omega), if_neg h2]
  simp only [nl, dig, Nat.pow_zero, Nat.div_one, Nat.pow_one, show (10 : Nat) ^ 2 = 100 from rfl]
  have e1 : 48 + p / 100 % 10 = 48 + p / 100 := by omega
  have e2 : 48 + p / 10 % 10 = 48 + p % 100 / 10 := by omega
  rw [e1, e2]
  simp
theorem e_aw52 {N h : Nat} (hN : 10000 ≤ N) {r p : Nat} (hp : p < 1000) {σ : SG} (hr : rok σ r) (d : Int32) (hd : (p = 0 ∧ d = 0) ∨ (¬ p = 0 ∧ d = 3)) : DX0_addWritten_52 N N (h + r) (lN p) d 0 (HH h σ) = some ((), HH h (rapp σ r (fracL p))) := by
  obtain ⟨w, rfl⟩ : ∃ w, N = w + 3 := ⟨N - 3, by omega⟩
  have hpart := fun (q e : Nat) (hq : q < 1000) (he : e < 1000) => e_addPart (N := w + 3) (h := h) (m := q) (d := e) hN (by omega) he hr
  rcases hd with ⟨rfl, rfl⟩ | ⟨h0, rfl⟩
  · have := hpart 0 0 (by omega) (by omega)
    rw [nI_0] at this
    simp only [DX0_addWritten_52, DX0_addWritten_91, Option.bind_some, bRT, bRW, bWW, bW, le0, ne10, if_true, if_false, not_true_eq_false, not_false_eq_true, uI_at, uA_1, uB_1, uG_1, uI_2, show ((2 : Int32) ≤ 0) = False from eq_false (by decide), this]
    rfl
  · have hdiv : ∀ q, q < 1000 → lN q / (10 : Int64) = lN (q / 10) := fun q hq => by
      rw [l10, pk_lDiv (by omega) (by omega) (by omega)]
    have hrem : ∀ q, q < 1000 → (lN q - lN (q / 10) * (10 : Int64) = (0 : Int64)) = (q % 10 = 0) := fun q hq => by
      rw [← hdiv q hq, l10, pk_lRem (by omega) (by omega) (by omega), l0]
      exact propext (pk_lEQ (by omega) (by omega))
    simp only [DX0_addWritten_52, DX0_addWritten_91, Option.bind_some, bRT, bRW, bWW, bW, le0, ne10, if_true, if_false, not_true_eq_false, not_false_eq_true, uI_at, uA_1, uB_1, uG_1, uI_2, show ((2 : Int32) ≤ 0) = False from eq_false (by decide), show ((3 : Int32) ≤ 0) = False from eq_false (by decide), hrem p hp, hdiv p hp, show ((3 : Int32) + -1) = 2 from rfl, show ((0 : Int32) + 1) = 1 from rfl, show ((2 : Int32) ≤ 1) = False from eq_false (by decide), show ((2 : Int32) ≤ 0) = False from eq_false (by decide), hrem (p / 10) (by omega), hdiv (p / 10) (by omega), show ((2 : Int32) + -1) = 1 from rfl, show ((1 : Int32) + 1) = 2 from rfl, show ((2 : Int32) ≤ 2) = True from eq_true (by decide)]
    by_cases c1 : p % 10 = 0
    · by_cases c2 : p / 10 % 10 = 0
      · rw [if_pos c1, if_pos c2, show (1 : Int32) = nI 1 from rfl, hpart (p / 10 / 10) 1 (by omega) (by omega)]
        simp only [Option.bind_some, bRT, bRW, bWW, bW, le0, ne10, if_true, if_false, not_true_eq_false, not_false_eq_true, uI_at, uA_1, uB_1, uG_1, uI_2]
        rw [fracL_1 hp h0 (by omega)]
      · rw [if_pos c1, if_neg c2, show (2 : Int32) = nI 2 from rfl, hpart (p / 10) 2 (by omega) (by omega)]
        simp only [Option.bind_some, bRT, bRW, bWW, bW, le0, ne10, if_true, if_false, not_true_eq_false, not_false_eq_true, uI_at, uA_1, uB_1, uG_1, uI_2]
        rw [fracL_2 hp (by omega) c1]
    · rw [if_neg c1, show (3 : Int32) = nI 3 from rfl, hpart p 3 (by omega) (by omega)]
      simp only [Option.bind_some, bRT, bRW, bWW, bW, le0, ne10, if_true, if_false, not_true_eq_false, not_false_eq_true, uI_at, uA_1, uB_1, uG_1, uI_2]
      rw [fracL_3 hp c1]
theorem e_addWritten {N h : Nat} (hN : 10000 ≤ N) {r : Nat} {σ : SG} (hr : rok σ r) {v : Int} (hv : -999999999999 ≤ v ∧ v ≤ 999999999999) : DX0_addWritten N (Int64.ofInt v) (h + r) (HH h σ) = some ((), HH h (rapp σ r (wrL v))) := by
  have h18 : ∀ τ, rok τ r → DX0_addWritten_18 N (h + r) (lN v.natAbs) (HH h τ) = some ((), HH h (rapp τ r (numL (v.natAbs / 1000) false ++ fracL (v.natAbs % 1000)))) := fun τ ht => by
    have e1 : lN v.natAbs / (1000 : Int64) = lN (v.natAbs / 1000) := by
      rw [show (1000 : Int64) = lN 1000 from rfl, pk_lDiv (by omega) (by omega) (by omega)]
    have e2 : lN v.natAbs - lN (v.natAbs / 1000) * (1000 : Int64) = lN (v.natAbs % 1000) := by
      rw [← e1, show (1000 : Int64) = lN 1000 from rfl, pk_lRem (by omega) (by omega) (by omega)]
    have hnum := e_addNumber (N := N) (h := h) (m := v.natAbs / 1000) (cm := 0) hN (by omega) ht
    have ht2 := rapp_ok (numL (v.natAbs / 1000) false) ht
    rw [show (!decide ((0 : Int32) = 0)) = false from rfl] at hnum
    simp only [DX0_addWritten_18, DX0_addWritten_47, e1, e2, hnum, Option.bind_some, bRT, bRW, bWW, bW, le0, ne10, if_true, if_false, not_true_eq_false, not_false_eq_true, uI_at, uA_1, uB_1, uG_1, uI_2]
    rw [rapp_app]
    by_cases c : v.natAbs % 1000 = 0
    · rw [if_pos (by rw [c]; rfl)]
      exact e_aw52 hN (by omega) ht2 0 (Or.inl ⟨c, rfl⟩)
    · rw [if_neg (by rw [l0, pk_lEQ (by omega) (by omega)]; exact c)]
      exact e_aw52 hN (by omega) ht2 3 (Or.inr ⟨c, rfl⟩)
  unfold DX0_addWritten wrL
  simp only [le0V (show -9000000000000000 ≤ v ∧ v ≤ 9000000000000000 by omega), abV (show -9000000000000000 ≤ v ∧ v ≤ 9000000000000000 by omega)]
  by_cases c : 0 ≤ v
  · rw [if_pos c, if_neg (by omega), h18 σ hr]
    rfl
  · rw [if_neg c, if_pos (by omega), e_add hr]
    simp only [Option.bind_some, bRT, bRW, bWW, bW, le0, ne10, if_true, if_false, not_true_eq_false, not_false_eq_true, uI_at, uA_1, uB_1, uG_1, uI_2]
    rw [h18 _ (rpush_ok 45 hr)]
    rfl
/-! the reference's -/
theorem mstep {σ : SG} (hk : mok σ) (l : List Int32) (h : mr σ + l.length ≤ 64) : mok (mapp σ l) ∧ mr (mapp σ l) = mr σ + l.length := mapp_ok l hk h
theorem f_pa55 {N h : Nat} {p : Nat} (hp : p < 1000) (h0 : ¬ p = 0) {σ : SG} (hk : mok σ) (hl : mr σ + 3 ≤ 64) (w : Nat) : DX10_putAmount_55 N (w + 4) (h + 275) (lN p) (HH h σ) = some ((), HH h (mapp σ (nI (48 + p / 100) :: (if p % 100 = 0 then [] else nI (48 + p % 100 / 10) :: (if p % 10 = 0 then [] else [nI (48 + p % 10)]))))) := by
  have hle : ∀ q, q < 1000 → (lN q ≤ (0 : Int64)) = (q = 0) := fun q hq => by
    rw [l0]
    exact propext ((pk_lLE (by omega) (by omega)).trans (by omega))
  have hd : ∀ q, q < 1000 → ((48 : Int64) + lN q / (100 : Int64)).toInt32 = nI (48 + q / 100) := fun q hq => by
    rw [show (100 : Int64) = lN 100 from rfl, pk_lDiv (by omega) (by omega) (by omega), l48, lN_add, lN_i]
  have hs : ∀ q, q < 1000 → (lN q - lN q / (100 : Int64) * (100 : Int64)) * (10 : Int64) = lN (q % 100 * 10) := fun q hq => by
    rw [show (100 : Int64) = lN 100 from rfl, pk_lRem (by omega) (by omega) (by omega), l10, lN_mul]
  have s1 := mpush_ok (σ := σ) (nI (48 + p / 100)) (by omega)
  have r1 := mpush_mr (σ := σ) (x := nI (48 + p / 100)) (by omega)
  rw [DX10_putAmount_55, if_neg (by rw [hle p hp]; exact h0), hd p hp, hs p hp, e_put hk (by omega)]
  simp only [Option.bind_some, bRT, bRW, bWW, bW, le0, ne10, if_true, if_false, not_true_eq_false, not_false_eq_true, uI_at, uA_1, uB_1, uG_1, uI_2]
  rw [DX10_putAmount_55]
  by_cases c1 : p % 100 = 0
  · rw [if_pos (by rw [hle _ (by omega)]; omega), if_pos c1]
    rfl
  · rw [if_neg (by rw [hle _ (by omega)]; omega), if_neg c1, hd _ (by omega), hs _ (by omega), e_put s1 (by omega)]
    simp only [Option.bind_some, bRT, bRW, bWW, bW, le0, ne10, if_true, if_false, not_true_eq_false, not_false_eq_true, uI_at, uA_1, uB_1, uG_1, uI_2]
    have s2 := mpush_ok (σ := mpush σ (nI (48 + p / 100))) (nI (48 + p % 100 * 10 / 100)) (by omega)
    have r2 := mpush_mr (σ := mpush σ (nI (48 + p / 100))) (x := nI (48 + p % 100 * 10 / 100)) (by omega)
    have e2 : p % 100 * 10 / 100 = p % 100 / 10 := by omega
    have e3 : p % 100 * 10 % 100 * 10 = p % 10 * 100 := by omega
    rw [DX10_putAmount_55, e3]
    by_cases c2 : p % 10 = 0
    · rw [if_pos (by rw [hle _ (by omega)]; omega), if_pos c2, e2]
      rfl
    · have e4 : p % 10 * 100 / 100 = p % 10 := by omega
      have e5 : p % 10 * 100 % 100 * 10 = 0 := by omega
      rw [if_neg (by rw [hle _ (by omega)]; omega), if_neg c2, hd _ (by omega), hs _ (by omega), e_put s2 (by omega)]
      simp only [Option.bind_some, bRT, bRW, bWW, bW, le0, ne10, if_true, if_false, not_true_eq_false, not_false_eq_true, uI_at, uA_1, uB_1, uG_1, uI_2]
      rw [DX10_putAmount_55, e5, if_pos (by rw [hle _ (by omega)]), e2, e4]
      rfl
theorem f_putAmount {N h : Nat} (hN : 10000 ≤ N) {σ : SG} (hk : mok σ) {v : Int} (hv : -999999999999 ≤ v ∧ v ≤ 999999999999) (hl : mr σ + 14 ≤ 64) : DX10_putAmount N (h + 275) (Int64.ofInt v) (HH h σ) = some ((), HH h (mapp σ (wrL v))) := by
  have hn9 := numL_f (n := v.natAbs / 1000) (k := 9) (by omega) (by omega)
  have h25 : ∀ τ, mok τ → mr τ + 13 ≤ 64 → DX10_putAmount_25 N (h + 275) (lN v.natAbs) (HH h τ) = some ((), HH h (mapp τ (numL (v.natAbs / 1000) false ++ fracL (v.natAbs % 1000)))) := fun τ ht htl => by
    have e1 : lN v.natAbs / (1000 : Int64) = lN (v.natAbs / 1000) := by
      rw [show (1000 : Int64) = lN 1000 from rfl, pk_lDiv (by omega) (by omega) (by omega)]
    have e2 : lN v.natAbs - lN (v.natAbs / 1000) * (1000 : Int64) = lN (v.natAbs % 1000) := by
      rw [← e1, show (1000 : Int64) = lN 1000 from rfl, pk_lRem (by omega) (by omega) (by omega)]
    have hnum := e_putNumber (N := N) (h := h) (m := v.natAbs / 1000) (cm := 0) (σ := τ) hN (by omega) ht (by rw [show (!decide ((0 : Int32) = 0)) = false from rfl]; omega)
    rw [show (!decide ((0 : Int32) = 0)) = false from rfl] at hnum
    obtain ⟨k2, r2⟩ := mstep ht (numL (v.natAbs / 1000) false) (by omega)
    simp only [DX10_putAmount_25, e1, e2, hnum, Option.bind_some, bRT, bRW, bWW, bW, le0, ne10, if_true, if_false, not_true_eq_false, not_false_eq_true, uI_at, uA_1, uB_1, uG_1, uI_2]
    rw [mapp_app]
    by_cases c : v.natAbs % 1000 = 0
    · rw [if_pos (by rw [c]; decide)]
      unfold fracL
      rw [if_pos c]
      rfl
    · rw [if_neg (by rw [l0, pk_lLE (by omega) (by omega)]; omega), e_put k2 (by omega)]
      simp only [Option.bind_some, bRT, bRW, bWW, bW, le0, ne10, if_true, if_false, not_true_eq_false, not_false_eq_true, uI_at, uA_1, uB_1, uG_1, uI_2]
      have k3 := mpush_ok (σ := mapp τ (numL (v.natAbs / 1000) false)) 46 (by omega)
      have r3 := mpush_mr (σ := mapp τ (numL (v.natAbs / 1000) false)) (x := 46) (by omega)
      obtain ⟨w, rfl⟩ : ∃ w, N = w + 4 := ⟨N - 4, by omega⟩
      rw [f_pa55 (by omega) c k3 (by omega) w]
      unfold fracL
      rw [if_neg c]
      rfl
  unfold DX10_putAmount DX10_putAmount_12 wrL
  rw [r_ck]
  simp only [Option.bind_some, bRT, bRW, bWW, bW, le0, ne10, if_true, if_false, not_true_eq_false, not_false_eq_true, uI_at, uA_1, uB_1, uG_1, uI_2, le0V (show -9000000000000000 ≤ v ∧ v ≤ 9000000000000000 by omega)]
  by_cases c : 0 ≤ v
  · have cn : ¬ v < 0 := by omega
    simp only [c, cn, if_true, if_false, posV c, h25 σ hk (by omega), List.nil_append]
  · have cn : v < 0 := by omega
    simp only [c, cn, if_true, if_false, negV cn, e_put hk (show mr σ < 64 by omega), Option.bind_some, bRT, bRW, bWW, bW, le0, ne10, if_true, if_false, not_true_eq_false, not_false_eq_true, uI_at, uA_1, uB_1, uG_1, uI_2]
    rw [h25 _ (mpush_ok 45 (by omega)) (by rw [mpush_mr (by omega)]; omega)]
    rfl
