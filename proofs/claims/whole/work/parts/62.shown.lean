/-! AMOUNTS AS THEY ARE SHOWN, AND ALL THAT IS SHOWN -/
def half (d : Nat) : Nat := if d = 0 then 500 else if d = 1 then 50 else if d = 2 then 5 else 0
def rnd (v : Int) (d : Nat) : Nat := (v.natAbs + half d) / 10 ^ (3 - d)
def shL (v : Int) (d : Nat) (cm : Bool) : List Int32 := (if v < 0 ∧ 0 < rnd v d then [45] else []) ++ (numL (rnd v d / 10 ^ d) cm ++ partL (rnd v d) d)
theorem half_le (d : Nat) : half d ≤ 500 := by
  unfold half
  repeat' split
  all_goals omega
theorem rnd_le {v : Int} (h : -999999999999 ≤ v ∧ v ≤ 999999999999) {d : Nat} (hd : d ≤ 3) : rnd v d < 10 ^ 13 ∧ rnd v d / 10 ^ d < 10 ^ 10 := by
  unfold rnd
  have h5 := half_le d
  rcases (show d = 0 ∨ d = 1 ∨ d = 2 ∨ d = 3 by omega) with rfl | rfl | rfl | rfl <;> simp <;> omega
theorem shL_len {v : Int} (h : -999999999999 ≤ v ∧ v ≤ 999999999999) {d : Nat} (hd : d ≤ 3) (cm : Bool) : (shL v d cm).length ≤ 25 := by
  unfold shL
  have h1 := numL_c (rnd_le h hd).2 (by omega) cm
  have h2 := partL_len (rnd v d) d
  simp only [List.length_append]
  split <;> simp <;> omega
theorem e_half {N : Nat} {f : HF} {d : Nat} (hd : d ≤ 3) : DX0_halfOfLast N (nI d) f = some (lN (half d)) := by
  rcases (show d = 0 ∨ d = 1 ∨ d = 2 ∨ d = 3 by omega) with rfl | rfl | rfl | rfl <;> rfl
theorem e_addShown {N h : Nat} (hN : 10000 ≤ N) {r : Nat} {σ : SG} (hr : rok σ r) {v : Int} (hv : -999999999999 ≤ v ∧ v ≤ 999999999999) {d : Nat} (hd : d ≤ 3) (cm : Int32) : DX0_addShown N (Int64.ofInt v) (nI d) cm (h + r) (HH h σ) = some ((), HH h (rapp σ r (shL v d (!decide (cm = 0))))) := by
  have h5 := half_le d
  have hc := e_cut (N := N) (f := HH h σ) (d := 3 - d) (m := v.natAbs + half d) hN (by omega) (by omega)
  have hle := rnd_le hv hd
  have h38 : ∀ τ, rok τ r → DX0_addShown_38 N (nI d) cm (h + r) (lN (rnd v d)) (HH h τ) = some ((), HH h (rapp τ r (numL (rnd v d / 10 ^ d) (!decide (cm = 0)) ++ partL (rnd v d) d))) := fun τ ht => by
    have hq : rnd v d / 10 ^ d < 2 ^ 63 := by omega
    simp only [DX0_addShown_38, e_cut (N := N) (f := HH h τ) (d := d) (m := rnd v d) hN (by omega) (by omega), Option.bind_some, bRT, bRW, bWW, bW, le0, ne10, if_true, if_false, not_true_eq_false, not_false_eq_true, uI_at, uA_1, uB_1, uG_1, uI_2, e_addNumber (h := h) (cm := cm) hN hq ht, e_addPart (h := h) hN (show rnd v d < 2 ^ 63 by omega) (show d < 1000 by omega) (rapp_ok _ ht)]
    rw [rapp_app]
  unfold DX0_addShown shL
  rw [e_half hd]
  simp only [Option.bind_some, bRT, bRW, bWW, bW, le0, ne10, if_true, if_false, not_true_eq_false, not_false_eq_true, uI_at, uA_1, uB_1, uG_1, uI_2, abV (show -9000000000000000 ≤ v ∧ v ≤ 9000000000000000 by omega), lN_add, show (3 : Int32) = nI 3 from rfl, pk_sub hd, hc, le0V (show -9000000000000000 ≤ v ∧ v ≤ 9000000000000000 by omega)]
  have hr2 : (v.natAbs + half d) / 10 ^ (3 - d) = rnd v d := rfl
  rw [hr2]
  by_cases c : 0 ≤ v
  · rw [if_pos c, if_neg (by omega), h38 σ hr]
    rfl
  · rw [if_neg c]
    by_cases z : rnd v d = 0
    · rw [if_pos (by rw [z]; decide), if_neg (by omega), h38 σ hr]
      rfl
    · rw [if_neg (by rw [l0, pk_lLE (by omega) (by omega)]; omega), if_pos (by omega), e_add hr]
      simp only [Option.bind_some, bRT, bRW, bWW, bW, le0, ne10, if_true, if_false, not_true_eq_false, not_false_eq_true, uI_at, uA_1, uB_1, uG_1, uI_2]
      rw [h38 _ (rpush_ok 45 hr)]
      rfl
theorem dig_mod {n d b : Nat} (h : b < d) : dig (n % 10 ^ d) b = dig n b := by
  unfold dig
  congr 2
  obtain ⟨k, rfl⟩ : ∃ k, d = b + (k + 1) := ⟨d - b - 1, by omega⟩
  rw [Nat.pow_add, Nat.mod_mul_right_div_self, Nat.pow_succ, Nat.mul_comm, Nat.mod_mul_right_mod]
theorem nl_mod {n d : Nat} : ∀ b, b ≤ d → nl (n % 10 ^ d) false b = nl n false b
  | 0, _ => rfl
  | b + 1, h => by
    unfold nl
    rw [dig_mod (by omega), nl_mod b (by omega)]
theorem f_pr161 {N h : Nat} {R : Nat} (hR : R < 2 ^ 63) : ∀ (b w p : Nat) (σ : SG), b ≤ 3 → b < w → p < 2 ^ 63 → (b = 0 → p = 0) → (∀ b', b = b' + 1 → p = 10 ^ b') → mok σ → mr σ + b ≤ 64 → DX10_putRounded_161 N w (h + 275) (lN R) (lN p) (HH h σ) = some ((), HH h (mapp σ (nl R false b))) := by
  intro b
  induction b with
  | zero =>
    intro w p σ _ hw _ hp _ hk hl
    obtain ⟨w', rfl⟩ : ∃ w', w = w' + 1 := ⟨w - 1, by omega⟩
    rw [DX10_putRounded_161, hp rfl, if_pos (by decide)]
    rfl
  | succ b ih =>
    intro w p σ hb hw hp63 _ hp hk hl
    obtain ⟨w', rfl⟩ : ∃ w', w = w' + 1 := ⟨w - 1, by omega⟩
    have e := hp b rfl
    have hpos : 0 < p := by rw [e]; exact Nat.pow_pos (by omega)
    have hq : R / p < 2 ^ 63 := Nat.lt_of_le_of_lt (Nat.div_le_self _ _) hR
    have ed : (((48 : Int64) + ((lN R / lN p) - (lN R / lN p) / (10 : Int64) * (10 : Int64)))).toInt32 = dig R b := by
      rw [pk_lDiv hR hpos hp63, l10, pk_lRem hq (by omega) (by omega), l48, lN_add, lN_i, e]
      rfl
    rw [DX10_putRounded_161, if_neg (by rw [l0, pk_lLE hp63 (by omega)]; omega), if_pos (by rw [l0, pk_lEQ hp63 (by omega)]; omega), ed, e_put hk (by omega)]
    simp only [Option.bind_some, bRT, bRW, bWW, bW, le0, ne10, if_true, if_false, not_true_eq_false, not_false_eq_true, uI_at, uA_1, uB_1, uG_1, uI_2]
    have e10 : lN p / (10 : Int64) = lN (p / 10) := by rw [l10, pk_lDiv hp63 (by omega) (by omega)]
    rw [e10, ih w' (p / 10) _ (by omega) (by omega) (by omega) (fun z => by rw [e, z]) (fun b' hb' => by rw [e, hb', Nat.pow_succ]; exact Nat.mul_div_cancel _ (by omega)) (mpush_ok _ (by omega)) (by rw [mpush_mr (by omega)]; omega)]
    simp [nl, mapp]
theorem f_putRounded {N h : Nat} (hN : 10000 ≤ N) {σ : SG} {s : AS} (hM : RM σ s) (hn : s.2.2.2 ≤ 40) {m : Nat} (hm : m < s.2.2.2) (hk : mok σ) (h0 : mr σ = 0) {v : Int} (hv : -999999999999 ≤ v ∧ v ≤ 999999999999) {d : Nat} (hd : d ≤ 3) (hd2 : s.1 m 23 = nI d) : DX10_putRounded N (h + 275) (nI m) (Int64.ofInt v) (HH h σ) = some ((), HH h (mapp σ (shL v d (decide (s.1 m 24 = 1))))) := by
  have h5 := half_le d
  have hle := rnd_le hv hd
  have hnl := numL_c hle.2 (by omega) (decide (s.1 m 24 = 1))
  have habs : DX10_abs N (Int64.ofInt v) (HH h σ) = some (lN v.natAbs) := by
    unfold DX10_abs
    simp only [le0V (show -9000000000000000 ≤ v ∧ v ≤ 9000000000000000 by omega)]
    by_cases c : 0 ≤ v
    · rw [if_pos c, posV c]
    · rw [if_neg c, negV (by omega)]
  have h106 : ∀ (u : Nat), u = 10 ^ (3 - d) → ∀ τ, RM τ s → mok τ → mr τ ≤ 1 → DX10_putRounded_106 N (h + 275) (nI m) (nI d) (lN u) (lN (rnd v d)) (lN (rnd v d / 10 ^ d)) (HH h τ) = some ((), HH h (mapp τ (numL (rnd v d / 10 ^ d) (decide (s.1 m 24 = 1)) ++ partL (rnd v d) d))) := fun u hu τ hMt ht hr1 => by
    have h128 : ∀ cm : Int32, (!decide (cm = 0)) = decide (s.1 m 24 = 1) → DX10_putRounded_128 N (h + 275) (nI d) (lN u) (lN (rnd v d)) (h + 275) (lN (rnd v d / 10 ^ d)) cm (HH h τ) = some ((), HH h (mapp τ (numL (rnd v d / 10 ^ d) (decide (s.1 m 24 = 1)) ++ partL (rnd v d) d))) := fun cm hcm => by
      have hnum := e_putNumber (N := N) (h := h) (m := rnd v d / 10 ^ d) (cm := cm) (σ := τ) hN (by omega) ht (by rw [hcm]; omega)
      rw [hcm] at hnum
      obtain ⟨k2, r2⟩ := mstep ht (numL (rnd v d / 10 ^ d) (decide (s.1 m 24 = 1))) (by omega)
      simp only [DX10_putRounded_128, hnum, Option.bind_some, bRT, bRW, bWW, bW, le0, ne10, if_true, if_false, not_true_eq_false, not_false_eq_true, uI_at, uA_1, uB_1, uG_1, uI_2]
      rw [mapp_app]
      unfold partL
      by_cases c : d = 0
      · rw [if_pos (by rw [c]; decide), if_pos c]
        rfl
      · rw [if_neg (nI_nle (by omega) (by omega)), if_neg c, e_put k2 (by omega)]
        simp only [Option.bind_some, bRT, bRW, bWW, bW, le0, ne10, if_true, if_false, not_true_eq_false, not_false_eq_true, uI_at, uA_1, uB_1, uG_1, uI_2]
        have hu1 : 0 < u ∧ u ≤ 1000 ∧ 1000 / u = 10 ^ d ∧ 100 / u = 10 ^ (d - 1) := by
          rw [hu]
          rcases (show d = 1 ∨ d = 2 ∨ d = 3 by omega) with rfl | rfl | rfl <;> decide
        have e1 : (1000 : Int64) / lN u = lN (10 ^ d) := by
          rw [show (1000 : Int64) = lN 1000 from rfl, pk_lDiv (by omega) hu1.1 (by omega), hu1.2.2.1]
        have e2 : (100 : Int64) / lN u = lN (10 ^ (d - 1)) := by
          rw [show (100 : Int64) = lN 100 from rfl, pk_lDiv (by omega) hu1.1 (by omega), hu1.2.2.2]
        have hp3 : 10 ^ d ≤ 10 ^ 3 := Nat.pow_le_pow_right (by omega) hd
        have hp4 : 10 ^ (d - 1) ≤ 10 ^ 3 := Nat.pow_le_pow_right (by omega) (by omega)
        have hp0 : 0 < 10 ^ d := Nat.pow_pos (by omega)
        have e3 : lN (rnd v d) - lN (rnd v d) / lN (10 ^ d) * lN (10 ^ d) = lN (rnd v d % 10 ^ d) := pk_lRem (by omega) hp0 (by omega)
        have n1 : ¬ lN u = 0 := by rw [l0, pk_lEQ (by omega) (by omega)]; omega
        have n2 : ¬ lN (10 ^ d) = 0 := by rw [l0, pk_lEQ (by omega) (by omega)]; omega
        have hmod : rnd v d % 10 ^ d < 2 ^ 63 := Nat.lt_of_le_of_lt (Nat.mod_le _ _) (by omega)
        simp only [e1, n1, n2, e2, e3, not_false_eq_true, if_true]
        rw [f_pr161 hmod d N (10 ^ (d - 1)) _ hd (by omega) (by omega) (fun z => absurd z c) (fun b' hb' => by rw [hb']; rfl) (mpush_ok 46 (by omega)) (by rw [mpush_mr (by omega)]; omega), nl_mod d (Nat.le_refl d)]
        rfl
    simp only [DX10_putRounded_106, r_ck, r_0, r_1, r_2, r_3, r_4, r_5, r_6, r_7, r_8, r_9, r_10, r_11, r_12, r_13, r_14, r_15, r_16, r_17, r_18, r_19, r_20, r_21, r_22, r_23, r_24, r_25, r_26, r_27, r_28, r_29, r_30, r_31, r_32, r_33, r_34, r_35, r_36, r_37, rp_0, rp_1, rp_26, rp_28, rp_30, rp_33, rp_35, rp_37, Option.bind_some, bRT, bRW, bWW, bW, le0, ne10, if_true, if_false, not_true_eq_false, not_false_eq_true, uI_at, uA_1, uB_1, uG_1, uI_2, m_set4 hMt hn hm]
    by_cases c : s.1 m 24 = 1
    · rw [if_pos c]
      exact h128 1 (by simp [c])
    · rw [if_neg c]
      exact h128 0 (by simp [c])
  have h85 : ∀ (u : Nat), u = 10 ^ (3 - d) → DX10_putRounded_85 N (h + 275) (nI m) (Int64.ofInt v) (nI d) (lN u) (lN (rnd v d)) (lN (rnd v d / 10 ^ d)) (HH h σ) = some ((), HH h (mapp σ (shL v d (decide (s.1 m 24 = 1))))) := fun u hu => by
    unfold DX10_putRounded_85 shL
    simp only [le0V (show -9000000000000000 ≤ v ∧ v ≤ 9000000000000000 by omega)]
    by_cases c : 0 ≤ v
    · rw [if_pos c, if_neg (by omega), h106 u hu σ hM hk (by omega)]
      rfl
    · rw [if_neg c]
      by_cases z : rnd v d = 0
      · rw [if_pos (by rw [z]; decide), if_neg (by omega), h106 u hu σ hM hk (by omega)]
        rfl
      · rw [if_neg (by rw [l0, pk_lLE (by omega) (by omega)]; omega), if_pos (by omega), e_put hk (by omega)]
        simp only [Option.bind_some, bRT, bRW, bWW, bW, le0, ne10, if_true, if_false, not_true_eq_false, not_false_eq_true, uI_at, uA_1, uB_1, uG_1, uI_2]
        have hM2 : RM (mpush σ 45) s := hM.mapp [45]
        rw [h106 u hu _ hM2 (mpush_ok 45 (by omega)) (by rw [mpush_mr (by omega)]; omega)]
        rfl
  have h48 : ∀ (u : Nat), u = 10 ^ (3 - d) → u / 2 = half d → DX10_putRounded_48 N (h + 275) (nI m) (Int64.ofInt v) (nI d) (lN u) (HH h σ) = some ((), HH h (mapp σ (shL v d (decide (s.1 m 24 = 1))))) := fun u hu hu2 => by
    have hu1 : 0 < u ∧ u ≤ 1000 ∧ 1000 / u = 10 ^ d := by
      rw [hu]
      rcases (show d = 0 ∨ d = 1 ∨ d = 2 ∨ d = 3 by omega) with rfl | rfl | rfl | rfl <;> decide
    have e1 : (1000 : Int64) / lN u = lN (10 ^ d) := by
      rw [show (1000 : Int64) = lN 1000 from rfl, pk_lDiv (by omega) hu1.1 (by omega), hu1.2.2]
    have e2 : lN u / (2 : Int64) = lN (half d) := by
      rw [show (2 : Int64) = lN 2 from rfl, pk_lDiv (by omega) (by omega) (by omega), hu2]
    have e3 : lN (v.natAbs + half d) / lN u = lN (rnd v d) := by
      rw [pk_lDiv (by omega) hu1.1 (by omega), hu]
      rfl
    have hp3 : 10 ^ d ≤ 10 ^ 3 := Nat.pow_le_pow_right (by omega) hd
    have hp0 : 0 < 10 ^ d := Nat.pow_pos (by omega)
    have n1 : ¬ lN u = 0 := by rw [l0, pk_lEQ (by omega) (by omega)]; omega
    have n2 : ¬ lN (10 ^ d) = 0 := by rw [l0, pk_lEQ (by omega) (by omega)]; omega
    have e4 : lN (rnd v d) / lN (10 ^ d) = lN (rnd v d / 10 ^ d) := pk_lDiv (by omega) hp0 (by omega)
    unfold DX10_putRounded_48
    simp only [habs, Option.bind_some, bRT, bRW, bWW, bW, le0, ne10, if_true, if_false, not_true_eq_false, not_false_eq_true, uI_at, uA_1, uB_1, uG_1, uI_2, n1, e1, n2, e2, lN_add, e3, e4, h85 u hu]
    by_cases c : d = 0
    · rw [if_pos (by rw [c]; rfl)]
      have := h85 u hu
      rw [c, Nat.pow_zero, Nat.div_one] at this
      rw [c]
      exact this
    · rw [if_neg (nI_ne0 (by omega) (by omega))]
  simp only [DX10_putRounded, r_ck, r_0, r_1, r_2, r_3, r_4, r_5, r_6, r_7, r_8, r_9, r_10, r_11, r_12, r_13, r_14, r_15, r_16, r_17, r_18, r_19, r_20, r_21, r_22, r_23, r_24, r_25, r_26, r_27, r_28, r_29, r_30, r_31, r_32, r_33, r_34, r_35, r_36, r_37, rp_0, rp_1, rp_26, rp_28, rp_30, rp_33, rp_35, rp_37, Option.bind_some, bRT, bRW, bWW, bW, le0, ne10, if_true, if_false, not_true_eq_false, not_false_eq_true, uI_at, uA_1, uB_1, uG_1, uI_2, m_set3 hM hn hm, hd2]
  rcases (show d = 0 ∨ d = 1 ∨ d = 2 ∨ d = 3 by omega) with z | z | z | z
  · rw [if_pos (by rw [z]; rfl)]
    exact h48 1000 (by rw [z]) (by rw [z]; rfl)
  · rw [if_neg (by rw [z]; decide), if_pos (by rw [z]; rfl)]
    exact h48 100 (by rw [z]) (by rw [z]; rfl)
  · rw [if_neg (by rw [z]; decide), if_neg (by rw [z]; decide), if_pos (by rw [z]; rfl)]
    exact h48 10 (by rw [z]) (by rw [z]; rfl)
  · rw [if_neg (by rw [z]; decide), if_neg (by rw [z]; decide), if_neg (by rw [z]; decide)]
    exact h48 1 (by rw [z]) (by rw [z]; rfl)
/-! what is shown of a field -/
def showL (s : AS) (m : Nat) : List Int32 :=
  if s.1 m 1 = 1 then s.2.2.1 m 0
  else if s.1 m 1 = 5 then (if (s.2.2.1 m 0).length = 0 then s.2.2.1 m 0 else match amt (s.2.2.1 m 0) with | none => s.2.2.1 m 0 | some v => shL v (s.1 m 23).toNatClampNeg (decide (s.1 m 24 = 1)))
  else if s.1 m 1 = 2 then (if s.1 m 10 = 1 then [88] else [])
  else if s.1 m 1 = 3 ∨ s.1 m 1 = 4 then (if s.1 m 10 = -1 then [] else numL ((s.2.2.1 m 1).getD (s.1 m 10).toNatClampNeg 0).toNatClampNeg false)
  else []
theorem getD_mem {l : List Int32} {c : Nat} (h : c < l.length) : l.getD c 0 ∈ l := by
  rw [List.getD_eq_getElem?_getD, List.getElem?_eq_getElem h]
  exact List.getElem_mem h
theorem showL_len {σ : SG} {s : AS} (hC : RC σ s) (hI : Inv s) {m : Nat} (hm : m < s.2.2.2) : (showL s m).length ≤ 30 := by
  have hm4 : m < 40 := by have := hI.n40; omega
  have hl := hC.len hm4
  unfold showL
  split
  · omega
  · split
    · split
      · omega
      · split
        · omega
        · rename_i v hv
          obtain ⟨d, hd, e⟩ := (hI.V hm).2.2.1
          rw [e, nI_clamp (by omega)]
          have := shL_len (amt_rng hv) hd (decide (s.1 m 24 = 1))
          omega
    · split
      · split <;> simp
      · split
        · rename_i hk
          split
          · simp
          · rename_i hp
            obtain ⟨c, hc, e⟩ := ((hI.V hm).2.2.2.2.2.1 hk).resolve_left hp
            rw [e, nI_clamp (by omega)]
            obtain ⟨d, hd, e2⟩ := (hI.V hm).2.2.2.2.2.2 _ (getD_mem hc)
            rw [e2, nI_clamp (by omega)]
            have := numL_f (n := d) (k := 5) (by omega) (by omega)
            omega
        · simp
theorem e_show {N h : Nat} (hN : 10000 ≤ N) {σ : SG} {s : AS} (hC : RC σ s) (hI : Inv s) {m : Nat} (hm : m < s.2.2.2) : DX7_show N (h + 243) (h + (3 + 6 * m)) (HH h σ) = some (h + 244, HH h (rapp (uI σ 244 1 0) 244 (showL s m))) := by
  have hm4 : m < 40 := by have := hI.n40; omega
  have hl := hC.len hm4
  have hv0 := hC.view
  have hC1 : RC (uI σ 244 1 0) s := hC.work (sbut.uI (by simp)) (rclear_ok hv0) (hC.res.ag ((sbut.uI (ks := [244]) (by simp)).ag (by simp))) (hC.upw.ag ((sbut.uI (ks := [244]) (by simp)).ag (by simp)))
  have hs := hC1.sg hm4
  have hbe := e_become (N := N) (h := h) hN (r := 244) (r' := 3 + 6 * m + 2) (by omega) hC1.view hs.1
  rw [hs.2, uI_uI] at hbe
  simp only [DX7_show, DX7_show_87, DX7_show_124, o_ck, o_0, o_1, o_2, o_3, o_4, o_5, o_6, t_ck, t_0, v_ck, v_0, q_ck, q_0, q_1, q_2, q_3, q_4, wr_ck, wr_0, wr_1, wr_2, rd_ck, rd_0, rd_1, Option.bind_some, bRT, bRW, bWW, bW, le0, ne10, if_true, if_false, not_true_eq_false, not_false_eq_true, uI_at, uA_1, uB_1, uG_1, uI_2, e_clear (r := 244) rfl, c_1 hC1 hm4, g8 hm4, g9 hm4, hbe, c_10 hC1 hm4, e_hasL (hC1.cd hm4), ite01]
  unfold showL
  rcases hI.k6 hm with k | k | k | k | k | k
  · simp [k, rapp]
  · simp [k]
  · rw [k]
    simp only [show ((2 : Int32) = 1) = False from eq_false (by decide), show ((2 : Int32) = 5) = False from eq_false (by decide), Option.bind_some, bRT, bRW, bWW, bW, le0, ne10, if_true, if_false, not_true_eq_false, not_false_eq_true, uI_at, uA_1, uB_1, uG_1, uI_2]
    by_cases z : s.1 m 10 = 1
    · rw [if_pos z, if_pos z, e_add hC1.view]
      simp only [v_0, Option.bind_some, bRT, bRW, bWW, bW, le0, ne10, if_true, if_false, not_true_eq_false, not_false_eq_true, uI_at, uA_1, uB_1, uG_1, uI_2]
      rfl
    · rw [if_neg z, if_neg z]
      rfl
  · have hp := (hI.V hm).2.2.2.2.2.1 (Or.inl k)
    rw [k]
    simp only [show ((3 : Int32) = 1) = False from eq_false (by decide), show ((3 : Int32) = 5) = False from eq_false (by decide), show ((3 : Int32) = 2) = False from eq_false (by decide), true_or, Option.bind_some, bRT, bRW, bWW, bW, le0, ne10, if_true, if_false, not_true_eq_false, not_false_eq_true, uI_at, uA_1, uB_1, uG_1, uI_2]
    rcases hp with z | ⟨c, hc, z⟩
    · rw [z, if_pos (fun q => q.1 (by decide)), if_pos rfl]
      rfl
    · obtain ⟨d, hd, e2⟩ := (hI.V hm).2.2.2.2.2.2 _ (getD_mem hc)
      rw [z, if_neg (fun q => q ⟨nI_pos (by omega), nI_ge hc (by omega)⟩), if_neg (nI_nm1 (by omega)), nI_clamp (by omega), e_getL (hC1.cd hm4) hc]
      simp only [Option.bind_some, bRT, bRW, bWW, bW, le0, ne10, if_true, if_false, not_true_eq_false, not_false_eq_true, uI_at, uA_1, uB_1, uG_1, uI_2]
      rw [e2, nI_l (by omega), nI_clamp (by omega), e_addNumber hN (by omega) hC1.view]
      simp only [v_0, Option.bind_some, bRT, bRW, bWW, bW, le0, ne10, if_true, if_false, not_true_eq_false, not_false_eq_true, uI_at, uA_1, uB_1, uG_1, uI_2]
      rfl
  · have hp := (hI.V hm).2.2.2.2.2.1 (Or.inr k)
    rw [k]
    simp only [show ((4 : Int32) = 1) = False from eq_false (by decide), show ((4 : Int32) = 5) = False from eq_false (by decide), show ((4 : Int32) = 2) = False from eq_false (by decide), show ((4 : Int32) = 3) = False from eq_false (by decide), or_true, Option.bind_some, bRT, bRW, bWW, bW, le0, ne10, if_true, if_false, not_true_eq_false, not_false_eq_true, uI_at, uA_1, uB_1, uG_1, uI_2]
    rcases hp with z | ⟨c, hc, z⟩
    · rw [z, if_pos (fun q => q.1 (by decide)), if_pos rfl]
      rfl
    · obtain ⟨d, hd, e2⟩ := (hI.V hm).2.2.2.2.2.2 _ (getD_mem hc)
      rw [z, if_neg (fun q => q ⟨nI_pos (by omega), nI_ge hc (by omega)⟩), if_neg (nI_nm1 (by omega)), nI_clamp (by omega), e_getL (hC1.cd hm4) hc]
      simp only [Option.bind_some, bRT, bRW, bWW, bW, le0, ne10, if_true, if_false, not_true_eq_false, not_false_eq_true, uI_at, uA_1, uB_1, uG_1, uI_2]
      rw [e2, nI_l (by omega), nI_clamp (by omega), e_addNumber hN (by omega) hC1.view]
      simp only [v_0, Option.bind_some, bRT, bRW, bWW, bW, le0, ne10, if_true, if_false, not_true_eq_false, not_false_eq_true, uI_at, uA_1, uB_1, uG_1, uI_2]
      rfl
  · have ha : amF s m = amt (s.2.2.1 m 0) := by
      unfold amF
      rw [if_neg (by rw [k]; decide)]
    have hsn : DX7_showNumber N (h + 243) (h + (3 + 6 * m)) (HH h (uI σ 244 1 0)) = some ((), HH h (rapp (uI σ 244 1 0) 244 (if (s.2.2.1 m 0).length = 0 then s.2.2.1 m 0 else match amt (s.2.2.1 m 0) with | none => s.2.2.1 m 0 | some v => shL v (s.1 m 23).toNatClampNeg (decide (s.1 m 24 = 1))))) := by
      simp only [DX7_showNumber, DX7_showNumber_23, DX7_showNumber_57, o_ck, o_0, o_1, o_2, o_3, o_4, o_5, o_6, t_ck, t_0, v_ck, v_0, q_ck, q_0, q_1, q_2, q_3, q_4, wr_ck, wr_0, wr_1, wr_2, rd_ck, rd_0, rd_1, Option.bind_some, bRT, bRW, bWW, bW, le0, ne10, if_true, if_false, not_true_eq_false, not_false_eq_true, uI_at, uA_1, uB_1, uG_1, uI_2, e_amount hN hC1 hI hm (Or.inr k), ha, g8 hm4, g7 hm4, e_cntL hs, len0 hs.le, hbe, c_t3 hC1 hm4, c_t4 hC1 hm4]
      cases hv : amt (s.2.2.1 m 0) with
      | none =>
        simp only [encC, if_true]
        split <;> rfl
      | some v =>
        simp only [encC, encC_n (amt_rng hv), if_false]
        by_cases c : (s.2.2.1 m 0).length = 0
        · rw [if_pos c, if_pos c]
        · obtain ⟨d, hd, e⟩ := (hI.V hm).2.2.1
          rw [if_neg c, if_neg c, e, nI_clamp (by omega)]
          by_cases z : s.1 m 24 = 1
          · rw [if_pos z, e_addShown hN hC1.view (amt_rng hv) hd]
            simp [z]
          · rw [if_neg z, e_addShown hN hC1.view (amt_rng hv) hd]
            simp [z]
    rw [k]
    simp only [show ((5 : Int32) = 1) = False from eq_false (by decide), show ((5 : Int32) = 2) = False from eq_false (by decide), show ((5 : Int32) = 3) = False from eq_false (by decide), show ((5 : Int32) = 4) = False from eq_false (by decide), Option.bind_some, bRT, bRW, bWW, bW, le0, ne10, if_true, if_false, not_true_eq_false, not_false_eq_true, uI_at, uA_1, uB_1, uG_1, uI_2, hsn, v_0]
