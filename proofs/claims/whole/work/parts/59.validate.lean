/-! validate -/
def amF (s : AS) (m : Nat) : Option Int := if s.1 m 1 = 2 then some (if s.1 m 10 = 1 then 1000 else 0) else amt (s.2.2.1 m 0)
theorem amF_rng {s : AS} {m : Nat} {v : Int} (h : amF s m = some v) : -999999999999 ≤ v ∧ v ≤ 999999999999 := by
  unfold amF at h
  split at h
  · simp only [Option.some.injEq] at h
    split at h <;> omega
  · exact amt_rng h
theorem ofI {v : Int} (h : -9000000000000000 ≤ v ∧ v ≤ 9000000000000000) : (Int64.ofInt v).toInt = v := by
  rw [Int64.toInt_ofInt]
  have hz : (Int64.size : Int) = 18446744073709551616 := rfl
  apply Int.bmod_eq_of_le_mul_two
  · omega
  · omega
theorem encC_n {v : Int} (h : -999999999999 ≤ v ∧ v ≤ 999999999999) : ¬ Int64.ofInt v = (-9223372036854775808 : Int64) := fun e => by
  have := congrArg Int64.toInt e
  rw [ofI (by omega), show (-9223372036854775808 : Int64).toInt = -9223372036854775808 from rfl] at this
  omega
theorem encM_n {v : Int} (h : -999999999999 ≤ v ∧ v ≤ 999999999999) : ¬ Int64.ofInt v = (9000000000000000000 : Int64) := fun e => by
  have := congrArg Int64.toInt e
  rw [ofI (by omega), show (9000000000000000000 : Int64).toInt = 9000000000000000000 from rfl] at this
  omega
theorem e_amount {N h : Nat} (hN : 10000 ≤ N) {σ : SG} {s : AS} (hC : RC σ s) (hI : Inv s) {m : Nat} (hm : m < s.2.2.2) (hk : s.1 m 1 = 2 ∨ s.1 m 1 = 5) : DX2_amount N (h + (3 + 6 * m)) (HH h σ) = some (encC (amF s m)) := by
  have hm4 : m < 40 := by have := hI.n40; omega
  simp only [DX2_amount, Option.bind_some, bRT, bRW, bWW, bW, le0, ne10, if_true, if_false, not_true_eq_false, not_false_eq_true, uI_at, uA_1, uB_1, uG_1, uI_2, k1 hm4, c_1 hC hm4, c_10 hC hm4, g8 hm4, e_of hN (hC.sg hm4)]
  unfold amF
  by_cases a : s.1 m 1 = 2
  · rw [if_pos a, if_pos a]
    rcases (hI.V hm).2.2.2.2.1 a with q | q <;> rw [q] <;> rfl
  · rw [if_neg a, if_neg a, if_pos (hk.resolve_left a)]
theorem f_amountF {N h : Nat} (hN : 10000 ≤ N) {σ : SG} {s : AS} (hM : RM σ s) (hI : Inv s) {m : Nat} (hm : m < s.2.2.2) (hl : (s.2.2.1 m 0).length ≤ 30) : DX10_amountOf N (h + 275) (nI m) (HH h σ) = some (encM (amF s m)) := by
  have hn := hI.n40
  by_cases a : s.1 m 1 = 2
  · simp only [DX10_amountOf, r_ck, r_0, r_1, r_2, r_3, r_4, r_5, r_6, r_7, r_8, r_9, r_10, r_11, r_12, r_13, r_14, r_15, r_16, r_17, r_18, r_19, r_20, r_21, r_22, r_23, r_24, r_25, r_26, r_27, r_28, r_29, r_30, r_31, r_32, r_33, r_34, r_35, r_36, r_37, rp_0, rp_1, rp_26, rp_28, rp_30, rp_33, rp_35, rp_37, Option.bind_some, bRT, bRW, bWW, bW, le0, ne10, if_true, if_false, not_true_eq_false, not_false_eq_true, uI_at, uA_1, uB_1, uG_1, uI_2, m_kind hM hn hm, a, m_pick hM hn hm (Or.inl a)]
    unfold amF
    rw [if_pos a]
    rcases (hI.V hm).2.2.2.2.1 a with q | q <;> rw [q] <;> rfl
  · rw [f_amount hN hM hn hm hl a]
    unfold amF
    rw [if_neg a]
abbrev em (s : AS) (m : Nat) : Prop := ((s.1 m 1 = 1 ∨ s.1 m 1 = 5) ∧ (s.2.2.1 m 0).length = 0) ∨ (s.1 m 1 = 2 ∧ s.1 m 10 = 0) ∨ ((s.1 m 1 = 3 ∨ s.1 m 1 = 4) ∧ s.1 m 10 = -1)
def vd (s : AS) (m : Nat) : Int32 := if s.1 m 1 = 5 then (if (s.2.2.1 m 0).length = 0 then 1 else match amF s m with | none => 3 | some v => if s.2.1 m 11 ≤ Int64.ofInt v then (if Int64.ofInt v ≤ s.2.1 m 12 then 1 else 5) else 4) else 1
theorem len0 {l : Nat} (h : l ≤ 8000) : (nI l = 0) = (l = 0) := by
  rw [← nI_0]
  exact propext (nI_eq (by omega) (by omega))
theorem e_vd {N h : Nat} (hN : 10000 ≤ N) {σ : SG} {s : AS} (hC : RC σ s) (hI : Inv s) {m : Nat} (hm : m < s.2.2.2) : DX2_verdict_19 N (HH h σ) (h + (3 + 6 * m)) = some (vd s m) := by
  have hm4 : m < 40 := by have := hI.n40; omega
  simp only [DX2_verdict_19, Option.bind_some, bRT, bRW, bWW, bW, le0, ne10, if_true, if_false, not_true_eq_false, not_false_eq_true, uI_at, uA_1, uB_1, uG_1, uI_2, c_1 hC hm4, g8 hm4, e_cntL (hC.sg hm4), c_11 hC hm4, c_12 hC hm4, len0 (hC.sg hm4).le]
  unfold vd
  by_cases a : s.1 m 1 = 5
  · rw [if_pos a, if_pos a]
    by_cases b : (s.2.2.1 m 0).length = 0
    · rw [if_pos b, if_pos b]
    · rw [if_neg b, if_neg b, e_amount hN hC hI hm (Or.inr a)]
      simp only [Option.bind_some, bRT, bRW, bWW, bW, le0, ne10, if_true, if_false, not_true_eq_false, not_false_eq_true, uI_at, uA_1, uB_1, uG_1, uI_2]
      cases hv : amF s m with
      | none => rfl
      | some v =>
        simp only [encC, encC_n (amF_rng hv), if_false]
        by_cases q1 : s.2.1 m 11 ≤ Int64.ofInt v
        · by_cases q2 : Int64.ofInt v ≤ s.2.1 m 12
          · simp only [q1, q2, if_true]
          · simp only [q1, q2, if_true, if_false]
        · simp only [q1, if_false]
  · rw [if_neg a, if_neg a]
theorem f_vd {N h : Nat} (hN : 10000 ≤ N) {σ : SG} {s : AS} (hM : RM σ s) (hI : Inv s) {m : Nat} (hm : m < s.2.2.2) (hl : (s.2.2.1 m 0).length ≤ 30) : DX10_validate_111 N (h + 275) (nI m) (HH h σ) = some (vd s m, HH h σ) := by
  have hn := hI.n40
  simp only [DX10_validate_111, r_ck, r_0, r_1, r_2, r_3, r_4, r_5, r_6, r_7, r_8, r_9, r_10, r_11, r_12, r_13, r_14, r_15, r_16, r_17, r_18, r_19, r_20, r_21, r_22, r_23, r_24, r_25, r_26, r_27, r_28, r_29, r_30, r_31, r_32, r_33, r_34, r_35, r_36, r_37, rp_0, rp_1, rp_26, rp_28, rp_30, rp_33, rp_35, rp_37, Option.bind_some, bRT, bRW, bWW, bW, le0, ne10, if_true, if_false, not_true_eq_false, not_false_eq_true, uI_at, uA_1, uB_1, uG_1, uI_2, m_kind hM hn hm, m_par hM hn hm, m_name hM hn hm, m_fst hM hn hm, m_wid hM hn hm, m_hei hM hn hm, m_lea hM hn hm, m_mos hM hn hm, m_op hM hn hm, m_sid hM hn hm, m_flat hM hn hm, m_lock hM hn hm, m_failing hM hn hm, m_many hM hn hm, m_opts hM hn hm, m_set0 hM hn hm, m_set1 hM hn hm, m_set2 hM hn hm, m_set3 hM hn hm, m_set4 hM hn hm, len0 (show (s.2.2.1 m 0).length ≤ 8000 by omega)]
  unfold vd
  by_cases a : s.1 m 1 = 5
  · rw [if_pos a, if_pos a]
    by_cases b : (s.2.2.1 m 0).length = 0
    · rw [if_pos b, if_pos b]
    · rw [if_neg b, if_neg b, f_amountF hN hM hI hm hl]
      simp only [Option.bind_some, bRT, bRW, bWW, bW, le0, ne10, if_true, if_false, not_true_eq_false, not_false_eq_true, uI_at, uA_1, uB_1, uG_1, uI_2]
      cases hv : amF s m with
      | none => rfl
      | some v =>
        simp only [encM, encM_n (amF_rng hv), if_false]
        by_cases q1 : s.2.1 m 11 ≤ Int64.ofInt v
        · by_cases q2 : Int64.ofInt v ≤ s.2.1 m 12
          · simp only [q1, q2, if_true]
          · simp only [q1, q2, if_true, if_false]
        · simp only [q1, if_false]
  · rw [if_neg a, if_neg a]
theorem op_validate {N h : Nat} (hN : 10000 ≤ N) {σ : SG} {s : AS} (hS : St σ s) (x : Int32) : Out h σ s ex2 ((DX9_validate N h x (HH h σ)).map fun r => (r, HH h σ)) (fun σ' => DX10_validate N (h + 275) x (HH h σ')) := by
  have hS' := hS
  obtain ⟨hC, hM, hI⟩ := hS
  have hn := hI.n40
  rcases ixc x hn with hx | ⟨i, hi, rfl⟩
  · refine Out.thr hS' 1 (by omega) 0 ?_ (fun σ' hM' => ?_)
    · simp only [DX9_validate, o_ck, o_0, o_1, o_2, o_3, o_4, o_5, o_6, t_ck, t_0, v_ck, v_0, q_ck, q_0, q_1, q_2, q_3, q_4, wr_ck, wr_0, wr_1, wr_2, rd_ck, rd_0, rd_1, Option.bind_some, bRT, bRW, bWW, bW, le0, ne10, if_true, if_false, not_true_eq_false, not_false_eq_true, uI_at, uA_1, uB_1, uG_1, uI_2, e_mw1 hC hx, Option.map_some]
      rfl
    · simp only [DX10_validate, r_ck, r_0, r_1, r_2, r_3, r_4, r_5, r_6, r_7, r_8, r_9, r_10, r_11, r_12, r_13, r_14, r_15, r_16, r_17, r_18, r_19, r_20, r_21, r_22, r_23, r_24, r_25, r_26, r_27, r_28, r_29, r_30, r_31, r_32, r_33, r_34, r_35, r_36, r_37, rp_0, rp_1, rp_26, rp_28, rp_30, rp_33, rp_35, rp_37, Option.bind_some, bRT, bRW, bWW, bW, le0, ne10, if_true, if_false, not_true_eq_false, not_false_eq_true, uI_at, uA_1, uB_1, uG_1, uI_2, e_cf1 hM' hx, le1]
      rfl
  · obtain ⟨m, hm, e, ek⟩ := hI.f hi
    have hm4 : m < 40 := by omega
    have hl := hC.len hm4
    by_cases hk : s.1 i 1 = 0
    · refine Out.thr hS' 2 (by omega) 0 ?_ (fun σ' hM' => ?_)
      · simp only [DX9_validate, o_ck, o_0, o_1, o_2, o_3, o_4, o_5, o_6, t_ck, t_0, v_ck, v_0, q_ck, q_0, q_1, q_2, q_3, q_4, wr_ck, wr_0, wr_1, wr_2, rd_ck, rd_0, rd_1, Option.bind_some, bRT, bRW, bWW, bW, le0, ne10, if_true, if_false, not_true_eq_false, not_false_eq_true, uI_at, uA_1, uB_1, uG_1, uI_2, e_mw2 hC hi hm e (ek.trans hk), Option.map_some]
        rfl
      · simp only [DX10_validate, r_ck, r_0, r_1, r_2, r_3, r_4, r_5, r_6, r_7, r_8, r_9, r_10, r_11, r_12, r_13, r_14, r_15, r_16, r_17, r_18, r_19, r_20, r_21, r_22, r_23, r_24, r_25, r_26, r_27, r_28, r_29, r_30, r_31, r_32, r_33, r_34, r_35, r_36, r_37, rp_0, rp_1, rp_26, rp_28, rp_30, rp_33, rp_35, rp_37, Option.bind_some, bRT, bRW, bWW, bW, le0, ne10, if_true, if_false, not_true_eq_false, not_false_eq_true, uI_at, uA_1, uB_1, uG_1, uI_2, e_cf2 hM' hn hi hk, le2]
        rfl
    · have hkm : ¬ s.1 m 1 = 0 := by rw [ek]; exact hk
      refine Out.ans hS' (if s.1 m 20 = 1 ∧ em s m then 2 else vd s m) ?_ (fun σ' hM' => ?_)
      · have hE : DX2_isEmpty N (h + (3 + 6 * m)) (HH h σ) = some (if em s m then 1 else 0) := by
          simp only [DX2_isEmpty, DX2_isEmpty_40, Option.bind_some, bRT, bRW, bWW, bW, le0, ne10, if_true, if_false, not_true_eq_false, not_false_eq_true, uI_at, uA_1, uB_1, uG_1, uI_2, k1 hm4, g7 hm4, g8 hm4, g9 hm4, c_0 hC hm4, c_1 hC hm4, c_2 hC hm4, c_3 hC hm4, c_4 hC hm4, c_5 hC hm4, c_6 hC hm4, c_10 hC hm4, c_11 hC hm4, c_12 hC hm4, c_13 hC hm4, c_14 hC hm4, c_15 hC hm4, c_16 hC hm4, c_t0 hC hm4, c_t1 hC hm4, c_t2 hC hm4, c_t3 hC hm4, c_t4 hC hm4, c_t5 hC hm4, c_t6 hC hm4, c_t7 hC hm4, e_hasSigns hC hm4, ite01, e_cntL (hC.sg hm4), len0 (hC.sg hm4).le]
          rcases hI.k6 hm with k | k | k | k | k | k
          · exact absurd k hkm
          · by_cases z : (s.2.2.1 m 0).length = 0 <;> simp [em, k, z]
          · by_cases z : s.1 m 10 = 0 <;> simp [em, k, z]
          · by_cases z : s.1 m 10 = -1 <;> simp [em, k, z]
          · by_cases z : s.1 m 10 = -1 <;> simp [em, k, z]
          · by_cases z : (s.2.2.1 m 0).length = 0 <;> simp [em, k, z]
        simp only [DX9_validate, DX2_verdict, o_ck, o_0, o_1, o_2, o_3, o_4, o_5, o_6, t_ck, t_0, v_ck, v_0, q_ck, q_0, q_1, q_2, q_3, q_4, wr_ck, wr_0, wr_1, wr_2, rd_ck, rd_0, rd_1, Option.bind_some, bRT, bRW, bWW, bW, le0, ne10, if_true, if_false, not_true_eq_false, not_false_eq_true, uI_at, uA_1, uB_1, uG_1, uI_2, e_mw hC hi hm e hkm, k1 hm4, g7 hm4, c_t0 hC hm4, hE, e_vd hN hC hI hm, ite01]
        by_cases a : s.1 m 20 = 1
        · by_cases b : em s m
          · simp only [a, b, and_self, Option.bind_some, bRT, bRW, bWW, bW, le0, ne10, if_true, if_false, not_true_eq_false, not_false_eq_true, uI_at, uA_1, uB_1, uG_1, uI_2, Option.map_some]
          · simp only [a, b, and_false, Option.bind_some, bRT, bRW, bWW, bW, le0, ne10, if_true, if_false, not_true_eq_false, not_false_eq_true, uI_at, uA_1, uB_1, uG_1, uI_2, Option.map_some]
        · simp only [a, false_and, Option.bind_some, bRT, bRW, bWW, bW, le0, ne10, if_true, if_false, not_true_eq_false, not_false_eq_true, uI_at, uA_1, uB_1, uG_1, uI_2, Option.map_some]
      · have hM0 := hM'.thr 0
        have h92 : ∀ (g : Prop) [Decidable g], DX10_validate_92 N (h + 275) (nI m) (if g then 1 else 0) (HH h (uI σ' 275 0 0)) = some (if s.1 m 20 = 1 ∧ g then 2 else vd s m, HH h (uI σ' 275 0 0)) := fun g _ => by
          simp only [DX10_validate_92, r_ck, r_0, r_1, r_2, r_3, r_4, r_5, r_6, r_7, r_8, r_9, r_10, r_11, r_12, r_13, r_14, r_15, r_16, r_17, r_18, r_19, r_20, r_21, r_22, r_23, r_24, r_25, r_26, r_27, r_28, r_29, r_30, r_31, r_32, r_33, r_34, r_35, r_36, r_37, rp_0, rp_1, rp_26, rp_28, rp_30, rp_33, rp_35, rp_37, Option.bind_some, bRT, bRW, bWW, bW, le0, ne10, if_true, if_false, not_true_eq_false, not_false_eq_true, uI_at, uA_1, uB_1, uG_1, uI_2, ite01, m_set0 hM0 hn hm, f_vd hN hM0 hI hm hl.1]
          by_cases b : g
          · by_cases a : s.1 m 20 = 1
            · simp only [a, b, and_self, Option.bind_some, bRT, bRW, bWW, bW, le0, ne10, if_true, if_false, not_true_eq_false, not_false_eq_true, uI_at, uA_1, uB_1, uG_1, uI_2]
            · simp only [a, b, false_and, Option.bind_some, bRT, bRW, bWW, bW, le0, ne10, if_true, if_false, not_true_eq_false, not_false_eq_true, uI_at, uA_1, uB_1, uG_1, uI_2]
          · simp only [b, and_false, Option.bind_some, bRT, bRW, bWW, bW, le0, ne10, if_true, if_false, not_true_eq_false, not_false_eq_true, uI_at, uA_1, uB_1, uG_1, uI_2]
        simp only [DX10_validate, r_ck, r_0, r_1, r_2, r_3, r_4, r_5, r_6, r_7, r_8, r_9, r_10, r_11, r_12, r_13, r_14, r_15, r_16, r_17, r_18, r_19, r_20, r_21, r_22, r_23, r_24, r_25, r_26, r_27, r_28, r_29, r_30, r_31, r_32, r_33, r_34, r_35, r_36, r_37, rp_0, rp_1, rp_26, rp_28, rp_30, rp_33, rp_35, rp_37, Option.bind_some, bRT, bRW, bWW, bW, le0, ne10, if_true, if_false, not_true_eq_false, not_false_eq_true, uI_at, uA_1, uB_1, uG_1, uI_2, e_cf hM' hn hi hk, m_fst hM0 hn hi, e, f_isSigned hM0 hn hm, ite01, m_kind hM0 hn hm, m_many hM0 hn hm, len0 (show (s.2.2.1 m 0).length ≤ 8000 by omega)]
        have h92e := h92 (em s m)
        rcases hI.k6 hm with k | k | k | k | k | k
        · exact absurd k hkm
        · by_cases z : (s.2.2.1 m 0).length = 0
          · have : em s m := Or.inl ⟨Or.inl k, z⟩
            simp only [this, if_true] at h92e ⊢
            simp [k, z, h92e]
          · have : ¬ em s m := by simp [em, k, z]
            simp only [this, if_false] at h92e ⊢
            simp [k, z, h92e]
        · simp only [m_pick hM0 hn hm (Or.inl k), Option.bind_some, bRT, bRW, bWW, bW, le0, ne10, if_true, if_false, not_true_eq_false, not_false_eq_true, uI_at, uA_1, uB_1, uG_1, uI_2]
          by_cases z : s.1 m 10 = 0
          · have : em s m := Or.inr (Or.inl ⟨k, z⟩)
            simp only [this, if_true] at h92e ⊢
            simp [k, z, h92e]
          · have : ¬ em s m := by simp [em, k, z]
            simp only [this, if_false] at h92e ⊢
            simp [k, z, h92e]
        · simp only [m_pick hM0 hn hm (Or.inr (Or.inl k)), Option.bind_some, bRT, bRW, bWW, bW, le0, ne10, if_true, if_false, not_true_eq_false, not_false_eq_true, uI_at, uA_1, uB_1, uG_1, uI_2]
          by_cases z : s.1 m 10 = -1
          · have : em s m := Or.inr (Or.inr ⟨Or.inl k, z⟩)
            simp only [this, if_true] at h92e ⊢
            simp [k, z, h92e]
          · have : ¬ em s m := by simp [em, k, z]
            simp only [this, if_false] at h92e ⊢
            simp [k, z, h92e]
        · simp only [m_pick hM0 hn hm (Or.inr (Or.inr k)), Option.bind_some, bRT, bRW, bWW, bW, le0, ne10, if_true, if_false, not_true_eq_false, not_false_eq_true, uI_at, uA_1, uB_1, uG_1, uI_2]
          by_cases z : s.1 m 10 = -1
          · have : em s m := Or.inr (Or.inr ⟨Or.inr k, z⟩)
            simp only [this, if_true] at h92e ⊢
            simp [k, z, h92e]
          · have : ¬ em s m := by simp [em, k, z]
            simp only [this, if_false] at h92e ⊢
            simp [k, z, h92e]
        · by_cases z : (s.2.2.1 m 0).length = 0
          · have : em s m := Or.inl ⟨Or.inr k, z⟩
            simp only [this, if_true] at h92e ⊢
            simp [k, z, h92e]
          · have : ¬ em s m := by simp [em, k, z]
            simp only [this, if_false] at h92e ⊢
            simp [k, z, h92e]
