/-! AMOUNTS, in the reference -/
theorem rval_add : ∀ (l : List Int32) (a : Nat), rval a l = a * 10 ^ run l + rval 0 l
  | [], a => by simp [rval, run]
  | x :: xs, a => by
    by_cases c : dgc x
    · rw [rval_d c, rval_d c, run_d c, rval_add xs (a * 10 + _), rval_add xs (0 * 10 + _), Nat.pow_succ]
      rw [Nat.add_mul, Nat.zero_mul, Nat.zero_add, Nat.mul_assoc, Nat.mul_comm 10, Nat.add_assoc]
    · rw [rval_n c, rval_n c, run_n c]
      simp
theorem ii_dig {N : Nat} {f : HF} (x : Int32) : DX10_isIn N x.toInt64 48 57 f = some (if dgc x then 1 else 0) := by
  rw [show (48 : Int64) = (48 : Int32).toInt64 from rfl, show (57 : Int64) = (57 : Int32).toInt64 from rfl, ii_eq]
  have : ((48 : Int32) ≤ x ∧ x ≤ (57 : Int32)) = dgc x := by
    rw [← Int32.not_lt, ← Int32.not_lt]
  simp only [this]
theorem f_a251 {N h : Nat} {σ : SG} {s : AS} (hM : RM σ s) (hn : s.2.2.2 ≤ 40) {m : Nat} (hm : m < s.2.2.2) (hl : (s.2.2.1 m 0).length ≤ 30) (h0 : 0 < (s.2.2.1 m 0).length) {p : Nat} (hp : p ≤ 30) (g : Int32) : ∀ (w c a : Nat), c < 100 → 3 - c < w → DX10_amountOf_251 N (HH h σ) w (h + 275) (nI (30 * m)) (nI (30 * m + (s.2.2.1 m 0).length)) (nI (30 * m + p)) (lN a) g (nI c) = some (if g = 0 ∨ p < (s.2.2.1 m 0).length then 9000000000000000000 else if (s.2.2.1 m 0).getD 0 0 = 45 then -(lN (a * 10 ^ (3 - c))) else lN (a * 10 ^ (3 - c))) := by
  intro w
  induction w with
  | zero => intro c a _ hw; omega
  | succ w ih =>
    intro c a hc hw
    simp only [DX10_amountOf_251, r_ck, r_0, r_1, r_2, r_3, r_4, r_5, r_6, r_7, r_8, r_9, r_10, r_11, r_12, r_13, r_14, r_15, r_16, r_17, r_18, r_19, r_20, r_21, r_22, r_23, r_24, r_25, r_26, r_27, r_28, r_29, r_30, r_31, r_32, r_33, r_34, r_35, r_36, r_37, rp_0, rp_1, rp_26, rp_28, rp_30, rp_33, rp_35, rp_37, Option.bind_some, bRT, bRW, bWW, bW, le0, ne10, if_true, if_false, not_true_eq_false, not_false_eq_true, uI_at, uA_1, uB_1, uG_1, uI_2]
    by_cases d : 3 ≤ c
    · rw [if_pos (show (3 : Int32) ≤ nI c from nI_le (a := 3) d (by omega)), show 3 - c = 0 by omega, Nat.pow_zero, Nat.mul_one]
      by_cases e : g = 0
      · rw [if_pos e, if_pos (Or.inl e)]
      · rw [if_neg e]
        by_cases q : p < (s.2.2.1 m 0).length
        · rw [if_neg (nI_ge (by omega) (by omega)), if_pos (Or.inr q)]
        · rw [if_pos (nI_le (by omega) (by omega)), if_neg (by simp [e, q])]
          have this : aI (HH h σ) (h + 284) 0 (nI (30 * m)) = some ((s.2.2.1 m 0).getD 0 0) := m_sign hM hn hm (j := 0) h0 hl
          rw [this]
          simp only [Option.bind_some, bRT, bRW, bWW, bW, le0, ne10, if_true, if_false, not_true_eq_false, not_false_eq_true, uI_at, uA_1, uB_1, uG_1, uI_2]
          split <;> rfl
    · rw [if_neg (show ¬ (3 : Int32) ≤ nI c from nI_ge (b := 3) (by omega) (by omega)), nI_1, show (10 : Int64) = lN 10 from rfl, lN_mul, ih (c + 1) (10 * a) (by omega) (by omega)]
      rw [show 3 - c = (3 - (c + 1)) + 1 by omega, Nat.pow_succ, Nat.mul_comm 10 a, Nat.mul_assoc, Nat.mul_comm 10]
theorem f_a168 {N h : Nat} {σ : SG} {s : AS} (hM : RM σ s) (hn : s.2.2.2 ≤ 40) {m : Nat} (hm : m < s.2.2.2) (hl : (s.2.2.1 m 0).length ≤ 30) (v2 g : Int32) : ∀ (w q c a : Nat), q ≤ (s.2.2.1 m 0).length → (s.2.2.1 m 0).length - q < w → DX10_amountOf_168 N (HH h σ) w (h + 275) v2 (nI (30 * m + (s.2.2.1 m 0).length)) (nI (30 * m + q)) (lN a) g (nI c) = DX10_amountOf_224 N (HH h σ) (h + 275) v2 (nI (30 * m + (s.2.2.1 m 0).length)) (nI (30 * m + (q + run ((s.2.2.1 m 0).drop q)))) (lN (rval a ((s.2.2.1 m 0).drop q))) g (nI (c + run ((s.2.2.1 m 0).drop q))) := by
  intro w
  induction w with
  | zero => intro q c a _ hw; omega
  | succ w ih =>
    intro q c a hq hw
    simp only [DX10_amountOf_168, r_ck, r_0, r_1, r_2, r_3, r_4, r_5, r_6, r_7, r_8, r_9, r_10, r_11, r_12, r_13, r_14, r_15, r_16, r_17, r_18, r_19, r_20, r_21, r_22, r_23, r_24, r_25, r_26, r_27, r_28, r_29, r_30, r_31, r_32, r_33, r_34, r_35, r_36, r_37, rp_0, rp_1, rp_26, rp_28, rp_30, rp_33, rp_35, rp_37, Option.bind_some, bRT, bRW, bWW, bW, le0, ne10, if_true, if_false, not_true_eq_false, not_false_eq_true, uI_at, uA_1, uB_1, uG_1, uI_2]
    by_cases d : (s.2.2.1 m 0).length ≤ q
    · rw [if_pos (nI_le (by omega) (by omega)), List.drop_eq_nil_of_le d]
      rfl
    · have hlt : q < (s.2.2.1 m 0).length := by omega
      rw [if_neg (nI_ge (by omega) (by omega)), drop_cons hlt]
      simp only [m_sign hM hn hm hlt hl, ii_dig, Option.bind_some, bRT, bRW, bWW, bW, le0, ne10, if_true, if_false, not_true_eq_false, not_false_eq_true, uI_at, uA_1, uB_1, uG_1, uI_2, ite01]
      by_cases e : dgc ((s.2.2.1 m 0).getD q 0)
      · rw [if_neg (fun z => z e), run_d e, rval_d e, dgt_step2 e, nI_1, nI_1, Nat.add_assoc, ih (q + 1) (c + 1) _ (by omega) (by omega)]
        congr 2 <;> omega
      · rw [if_pos e, run_n e, rval_n e]
        rfl
theorem f_a69 {N h : Nat} {σ : SG} {s : AS} (hM : RM σ s) (hn : s.2.2.2 ≤ 40) {m : Nat} (hm : m < s.2.2.2) (hl : (s.2.2.1 m 0).length ≤ 30) (v2 : Int32) : ∀ (w q c a : Nat), q ≤ (s.2.2.1 m 0).length → (s.2.2.1 m 0).length - q < w → DX10_amountOf_69 N (HH h σ) w (h + 275) v2 (nI (30 * m + (s.2.2.1 m 0).length)) (nI (30 * m + q)) (lN a) (nI c) = DX10_amountOf_125 N (HH h σ) (h + 275) v2 (nI (30 * m + (s.2.2.1 m 0).length)) (nI (30 * m + (q + run ((s.2.2.1 m 0).drop q)))) (lN (rval a ((s.2.2.1 m 0).drop q))) (nI (c + run ((s.2.2.1 m 0).drop q))) := by
  intro w
  induction w with
  | zero => intro q c a _ hw; omega
  | succ w ih =>
    intro q c a hq hw
    simp only [DX10_amountOf_69, r_ck, r_0, r_1, r_2, r_3, r_4, r_5, r_6, r_7, r_8, r_9, r_10, r_11, r_12, r_13, r_14, r_15, r_16, r_17, r_18, r_19, r_20, r_21, r_22, r_23, r_24, r_25, r_26, r_27, r_28, r_29, r_30, r_31, r_32, r_33, r_34, r_35, r_36, r_37, rp_0, rp_1, rp_26, rp_28, rp_30, rp_33, rp_35, rp_37, Option.bind_some, bRT, bRW, bWW, bW, le0, ne10, if_true, if_false, not_true_eq_false, not_false_eq_true, uI_at, uA_1, uB_1, uG_1, uI_2]
    by_cases d : (s.2.2.1 m 0).length ≤ q
    · rw [if_pos (nI_le (by omega) (by omega)), List.drop_eq_nil_of_le d]
      rfl
    · have hlt : q < (s.2.2.1 m 0).length := by omega
      rw [if_neg (nI_ge (by omega) (by omega)), drop_cons hlt]
      simp only [m_sign hM hn hm hlt hl, ii_dig, Option.bind_some, bRT, bRW, bWW, bW, le0, ne10, if_true, if_false, not_true_eq_false, not_false_eq_true, uI_at, uA_1, uB_1, uG_1, uI_2, ite01]
      by_cases e : dgc ((s.2.2.1 m 0).getD q 0)
      · rw [if_neg (fun z => z e), run_d e, rval_d e, dgt_step2 e, nI_1, nI_1, Nat.add_assoc, ih (q + 1) (c + 1) _ (by omega) (by omega)]
        congr 2 <;> omega
      · rw [if_pos e, run_n e, rval_n e]
        rfl
theorem f_amount {N h : Nat} (hN : 10000 ≤ N) {σ : SG} {s : AS} (hM : RM σ s) (hn : s.2.2.2 ≤ 40) {m : Nat} (hm : m < s.2.2.2) (hl : (s.2.2.1 m 0).length ≤ 30) (hk : ¬ s.1 m 1 = 2) : DX10_amountOf N (h + 275) (nI m) (HH h σ) = some (encM (amt (s.2.2.1 m 0))) := by
  simp only [DX10_amountOf, DX10_amountOf_61, r_ck, r_0, r_1, r_2, r_3, r_4, r_5, r_6, r_7, r_8, r_9, r_10, r_11, r_12, r_13, r_14, r_15, r_16, r_17, r_18, r_19, r_20, r_21, r_22, r_23, r_24, r_25, r_26, r_27, r_28, r_29, r_30, r_31, r_32, r_33, r_34, r_35, r_36, r_37, rp_0, rp_1, rp_26, rp_28, rp_30, rp_33, rp_35, rp_37, Option.bind_some, bRT, bRW, bWW, bW, le0, ne10, if_true, if_false, not_true_eq_false, not_false_eq_true, uI_at, uA_1, uB_1, uG_1, uI_2, m_kind hM hn hm, hk, m_many hM hn hm, n30, nI_add]
  unfold amt
  by_cases c : (s.2.2.1 m 0).length = 0
  · rw [c, if_pos (show nI (30 * m) = nI (30 * m + 0) from rfl), if_pos rfl]
    rfl
  · rw [if_neg (by rw [nI_eq (by omega) (by omega)]; omega), if_neg c]
    have g0 : aI (HH h σ) (h + 284) 0 (nI (30 * m)) = some ((s.2.2.1 m 0).getD 0 0) := m_sign hM hn hm (j := 0) (by omega) hl
    rw [g0]
    simp only [Option.bind_some, bRT, bRW, bWW, bW, le0, ne10, if_true, if_false, not_true_eq_false, not_false_eq_true, uI_at, uA_1, uB_1, uG_1, uI_2]
    have key : ∀ b, b = beg (s.2.2.1 m 0) → DX10_amountOf_69 N (HH h σ) N (h + 275) (nI (30 * m)) (nI (30 * m + (s.2.2.1 m 0).length)) (nI (30 * m + b)) (lN 0) (nI 0) = some (encM (if run ((s.2.2.1 m 0).drop (beg (s.2.2.1 m 0))) < 1 ∨ 9 < run ((s.2.2.1 m 0).drop (beg (s.2.2.1 m 0))) then none else match prt (s.2.2.1 m 0) (beg (s.2.2.1 m 0) + run ((s.2.2.1 m 0).drop (beg (s.2.2.1 m 0)))) with | none => none | some p => some (if (s.2.2.1 m 0).getD 0 0 = 45 then -((rval 0 ((s.2.2.1 m 0).drop (beg (s.2.2.1 m 0))) * 1000 + p : Nat) : Int) else ((rval 0 ((s.2.2.1 m 0).drop (beg (s.2.2.1 m 0))) * 1000 + p : Nat) : Int)))) := fun b hb => by
      have hb1 : b ≤ 1 := by rw [hb]; unfold beg; split <;> omega
      rw [← hb, f_a69 hM hn hm hl (nI (30 * m)) N b 0 0 (by omega) (by omega), Nat.zero_add]
      have hrl := run_le ((s.2.2.1 m 0).drop b)
      rw [List.length_drop] at hrl
      generalize hR : run ((s.2.2.1 m 0).drop b) = R at hrl ⊢
      generalize hW : rval 0 ((s.2.2.1 m 0).drop b) = W
      have hg : DX10_amountOf_125 N (HH h σ) (h + 275) (nI (30 * m)) (nI (30 * m + (s.2.2.1 m 0).length)) (nI (30 * m + (b + R))) (lN W) (nI R) = DX10_amountOf_142 N (HH h σ) (h + 275) (nI (30 * m)) (nI (30 * m + (s.2.2.1 m 0).length)) (nI (30 * m + (b + R))) (lN W) (if R < 1 ∨ 9 < R then 0 else 1) := by
        unfold DX10_amountOf_125 DX10_amountOf_141
        by_cases a1 : R < 1
        · rw [if_pos (show nI R ≤ 0 from by rw [← nI_0]; exact nI_le (by omega) (by omega)), if_pos (Or.inl a1)]
        · rw [if_neg (nI_nle (by omega) (by omega))]
          by_cases a9 : 9 < R
          · rw [if_pos (show (10 : Int32) ≤ nI R from nI_le (a := 10) (by omega) (by omega)), if_pos (Or.inr a9)]
          · rw [if_neg (show ¬ (10 : Int32) ≤ nI R from nI_ge (b := 10) (by omega) (by omega)), if_neg (by omega)]
      rw [hg]
      have h251 := fun g p (hp : p ≤ 30) c a hc => f_a251 (N := N) (h := h) hM hn hm hl (by omega) (p := p) hp g N c a hc (by omega)
      have h2510 : ∀ g p, p ≤ 30 → ∀ a, DX10_amountOf_251 N (HH h σ) N (h + 275) (nI (30 * m)) (nI (30 * m + (s.2.2.1 m 0).length)) (nI (30 * m + p)) (lN a) g 0 = some (if g = 0 ∨ p < (s.2.2.1 m 0).length then 9000000000000000000 else if (s.2.2.1 m 0).getD 0 0 = 45 then -(lN (a * 1000)) else lN (a * 1000)) := fun g p hp a => h251 g p hp 0 a (by omega)
      have h1680 : ∀ g, b + R < (s.2.2.1 m 0).length → DX10_amountOf_168 N (HH h σ) N (h + 275) (nI (30 * m)) (nI (30 * m + (s.2.2.1 m 0).length)) (nI (30 * m + (b + R + 1))) (lN W) g 0 = DX10_amountOf_224 N (HH h σ) (h + 275) (nI (30 * m)) (nI (30 * m + (s.2.2.1 m 0).length)) (nI (30 * m + (b + R + 1 + run ((s.2.2.1 m 0).drop (b + R + 1))))) (lN (rval W ((s.2.2.1 m 0).drop (b + R + 1)))) g (nI (run ((s.2.2.1 m 0).drop (b + R + 1)))) := fun g hlt => by
        have := f_a168 (N := N) (h := h) hM hn hm hl (nI (30 * m)) g N (b + R + 1) 0 W (by omega) (by omega)
        rw [nI_0, Nat.zero_add] at this
        exact this
      have hrl2 := run_le ((s.2.2.1 m 0).drop (b + R + 1))
      rw [List.length_drop] at hrl2
      have hra := rval_add ((s.2.2.1 m 0).drop (b + R + 1)) W
      by_cases a : R < 1 ∨ 9 < R
      · rw [if_pos a, if_pos a]
        unfold DX10_amountOf_142 DX10_amountOf_247
        by_cases d : (s.2.2.1 m 0).length ≤ b + R
        · rw [if_pos (nI_le (by omega) (by omega)), h2510 0 (b + R) (by omega) W, if_pos (Or.inl rfl)]
          rfl
        · have hlt : b + R < (s.2.2.1 m 0).length := by omega
          rw [if_neg (nI_ge (by omega) (by omega))]
          simp only [r_ck, r_0, r_1, r_2, r_3, r_4, r_5, r_6, r_7, r_8, r_9, r_10, r_11, r_12, r_13, r_14, r_15, r_16, r_17, r_18, r_19, r_20, r_21, r_22, r_23, r_24, r_25, r_26, r_27, r_28, r_29, r_30, r_31, r_32, r_33, r_34, r_35, r_36, r_37, rp_0, rp_1, rp_26, rp_28, rp_30, rp_33, rp_35, rp_37, Option.bind_some, bRT, bRW, bWW, bW, le0, ne10, if_true, if_false, not_true_eq_false, not_false_eq_true, uI_at, uA_1, uB_1, uG_1, uI_2, m_sign hM hn hm hlt hl]
          by_cases e : (s.2.2.1 m 0).getD (b + R) 0 = 46
          · rw [if_pos e, nI_1, Nat.add_assoc, h1680 0 hlt]
            unfold DX10_amountOf_224 DX10_amountOf_244 DX10_amountOf_245 DX10_amountOf_247
            rw [if_pos rfl, h251 0 _ (by omega) _ _ (by omega), if_pos (Or.inl rfl)]
            rfl
          · rw [if_neg e, h2510 0 (b + R) (by omega) W, if_pos (Or.inl rfl)]
            rfl
      · rw [if_neg a, if_neg a]
        unfold DX10_amountOf_142 DX10_amountOf_247
        by_cases d : (s.2.2.1 m 0).length ≤ b + R
        · have hp : prt (s.2.2.1 m 0) (b + R) = some 0 := by
            unfold prt
            rw [if_pos (by omega)]
          rw [hp, if_pos (nI_le (by omega) (by omega)), h2510 1 (b + R) (by omega) W, if_neg (by simp; omega)]
          by_cases z : (s.2.2.1 m 0).getD 0 0 = 45
          · rw [if_pos z]
            show some (-lN (W * 1000)) = some (Int64.ofInt (if (s.2.2.1 m 0).getD 0 0 = 45 then -((W * 1000 + 0 : Nat) : Int) else ((W * 1000 + 0 : Nat) : Int)))
            rw [if_pos z, Int64.ofInt_neg, Nat.add_zero, ← lN_ofInt]
          · rw [if_neg z]
            show some (lN (W * 1000)) = some (Int64.ofInt (if (s.2.2.1 m 0).getD 0 0 = 45 then -((W * 1000 + 0 : Nat) : Int) else ((W * 1000 + 0 : Nat) : Int)))
            rw [if_neg z, Nat.add_zero, ← lN_ofInt]
        · have hlt : b + R < (s.2.2.1 m 0).length := by omega
          rw [if_neg (nI_ge (by omega) (by omega))]
          simp only [r_ck, r_0, r_1, r_2, r_3, r_4, r_5, r_6, r_7, r_8, r_9, r_10, r_11, r_12, r_13, r_14, r_15, r_16, r_17, r_18, r_19, r_20, r_21, r_22, r_23, r_24, r_25, r_26, r_27, r_28, r_29, r_30, r_31, r_32, r_33, r_34, r_35, r_36, r_37, rp_0, rp_1, rp_26, rp_28, rp_30, rp_33, rp_35, rp_37, Option.bind_some, bRT, bRW, bWW, bW, le0, ne10, if_true, if_false, not_true_eq_false, not_false_eq_true, uI_at, uA_1, uB_1, uG_1, uI_2, m_sign hM hn hm hlt hl]
          by_cases e : (s.2.2.1 m 0).getD (b + R) 0 = 46
          · have hp : prt (s.2.2.1 m 0) (b + R) = if (1 ≤ (s.2.2.1 m 0).length - (b + R + 1) ∧ (s.2.2.1 m 0).length - (b + R + 1) ≤ 3) ∧ run ((s.2.2.1 m 0).drop (b + R + 1)) = (s.2.2.1 m 0).length - (b + R + 1) then some (rval 0 ((s.2.2.1 m 0).drop (b + R + 1)) * 10 ^ (3 - ((s.2.2.1 m 0).length - (b + R + 1)))) else none := by
              unfold prt
              rw [if_neg (by omega)]
              simp only [e, true_and]
            rw [if_pos e, nI_1, Nat.add_assoc, h1680 1 hlt, hp, hra]
            generalize run ((s.2.2.1 m 0).drop (b + R + 1)) = R2 at hrl2 ⊢
            generalize rval 0 ((s.2.2.1 m 0).drop (b + R + 1)) = V
            unfold DX10_amountOf_224 DX10_amountOf_244 DX10_amountOf_245 DX10_amountOf_247
            rw [if_neg (show ¬ (1 : Int32) = 0 by decide)]
            by_cases a1 : R2 < 1
            · rw [if_pos (show nI R2 ≤ 0 from by rw [← nI_0]; exact nI_le (by omega) (by omega)), h251 0 _ (by omega) _ _ (by omega), if_pos (Or.inl rfl), if_neg (by omega)]
              rfl
            · rw [if_neg (nI_nle (by omega) (by omega))]
              by_cases a9 : 3 < R2
              · rw [if_pos (show (4 : Int32) ≤ nI R2 from nI_le (a := 4) (by omega) (by omega)), h251 0 _ (by omega) _ _ (by omega), if_pos (Or.inl rfl), if_neg (by omega)]
                rfl
              · rw [if_neg (show ¬ (4 : Int32) ≤ nI R2 from nI_ge (b := 4) (by omega) (by omega)), h251 1 _ (by omega) _ _ (by omega)]
                by_cases y : b + R + 1 + R2 < (s.2.2.1 m 0).length
                · rw [if_pos (Or.inr y), if_neg (by omega)]; rfl
                · rw [if_neg (show ¬ ((1 : Int32) = 0 ∨ b + R + 1 + R2 < (s.2.2.1 m 0).length) by simp; omega), if_pos (show (1 ≤ (s.2.2.1 m 0).length - (b + R + 1) ∧ (s.2.2.1 m 0).length - (b + R + 1) ≤ 3) ∧ R2 = (s.2.2.1 m 0).length - (b + R + 1) by omega), show (s.2.2.1 m 0).length - (b + R + 1) = R2 by omega]
                  have hv : (W * 10 ^ R2 + V) * 10 ^ (3 - R2) = W * 1000 + V * 10 ^ (3 - R2) := by
                    rw [Nat.add_mul, Nat.mul_assoc, ← Nat.pow_add, show R2 + (3 - R2) = 3 by omega]
                  rw [hv]
                  simp only [encM]
                  by_cases z : (s.2.2.1 m 0).getD 0 0 = 45
                  · rw [if_pos z, if_pos z, Int64.ofInt_neg, ← lN_ofInt]
                  · rw [if_neg z, if_neg z, ← lN_ofInt]
          · have hp : prt (s.2.2.1 m 0) (b + R) = none := by
              unfold prt
              rw [if_neg (by omega), if_neg (fun z => e z.1)]
            rw [hp, if_neg e, h2510 1 (b + R) (by omega) W, if_pos (Or.inr hlt)]
            rfl
    by_cases z : (s.2.2.1 m 0).getD 0 0 = 45
    · rw [if_pos z]
      rw [nI_1]
      exact key 1 (by unfold beg; rw [if_pos z])
    · rw [if_neg z]
      exact key 0 (by unfold beg; rw [if_neg z])
