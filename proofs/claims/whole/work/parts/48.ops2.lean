/-! lock, bounds -/
theorem e_mw {N h : Nat} {σ : SG} {s : AS} (hC : RC σ s) {i m : Nat} (hi : i < s.2.2.2) (hm : m < s.2.2.2) (e : s.1 i 4 = nI m) (hk : ¬ s.1 m 1 = 0) : DX9_masterWithValue N h (nI i) (HH h σ) = some (.inl (h + (3 + 6 * m))) := by
  have hm4 : m < 40 := by have := hC.n40; omega
  simp only [DX9_masterWithValue, o_ck, o_0, o_1, o_2, o_3, o_4, o_5, o_6, t_ck, t_0, v_ck, v_0, q_ck, q_0, q_1, q_2, q_3, q_4, wr_ck, wr_0, wr_1, wr_2, rd_ck, rd_0, rd_1, Option.bind_some, bRT, bRW, bWW, bW, le0, ne10, if_true, if_false, not_true_eq_false, not_false_eq_true, uI_at, uA_1, uB_1, uG_1, uI_2, e_tm hC hi hm e, c_1 hC hm4, hk]
theorem e_mw2 {N h : Nat} {σ : SG} {s : AS} (hC : RC σ s) {i m : Nat} (hi : i < s.2.2.2) (hm : m < s.2.2.2) (e : s.1 i 4 = nI m) (hk : s.1 m 1 = 0) : DX9_masterWithValue N h (nI i) (HH h σ) = some (.inr "java/lang/IllegalArgumentException") := by
  have hm4 : m < 40 := by have := hC.n40; omega
  simp only [DX9_masterWithValue, o_ck, o_0, o_1, o_2, o_3, o_4, o_5, o_6, t_ck, t_0, v_ck, v_0, q_ck, q_0, q_1, q_2, q_3, q_4, wr_ck, wr_0, wr_1, wr_2, rd_ck, rd_0, rd_1, Option.bind_some, bRT, bRW, bWW, bW, le0, ne10, if_true, if_false, not_true_eq_false, not_false_eq_true, uI_at, uA_1, uB_1, uG_1, uI_2, e_tm hC hi hm e, c_1 hC hm4, hk]
theorem e_mw1 {N h : Nat} {σ : SG} {s : AS} (hC : RC σ s) {x : Int32} (hx : x < 0 ∨ nI s.2.2.2 ≤ x) : DX9_masterWithValue N h x (HH h σ) = some (.inr "java/util/NoSuchElementException") := by
  simp only [DX9_masterWithValue, o_ck, o_0, o_1, o_2, o_3, o_4, o_5, o_6, t_ck, t_0, v_ck, v_0, q_ck, q_0, q_1, q_2, q_3, q_4, wr_ck, wr_0, wr_1, wr_2, rd_ck, rd_0, rd_1, Option.bind_some, bRT, bRW, bWW, bW, le0, ne10, if_true, if_false, not_true_eq_false, not_false_eq_true, uI_at, uA_1, uB_1, uG_1, uI_2, e_tm0 hC hx]
theorem e_cf {N h : Nat} {σ : SG} {s : AS} (hM : RM σ s) (hn : s.2.2.2 ≤ 40) {i : Nat} (hi : i < s.2.2.2) (hk : ¬ s.1 i 1 = 0) : DX10_checkField N (h + 275) (nI i) (HH h σ) = some 0 := by
  simp only [DX10_checkField, r_ck, r_0, r_1, r_2, r_3, r_4, r_5, r_6, r_7, r_8, r_9, r_10, r_11, r_12, r_13, r_14, r_15, r_16, r_17, r_18, r_19, r_20, r_21, r_22, r_23, r_24, r_25, r_26, r_27, r_28, r_29, r_30, r_31, r_32, r_33, r_34, r_35, r_36, r_37, rp_0, rp_1, rp_26, rp_28, rp_30, rp_33, rp_35, rp_37, Option.bind_some, bRT, bRW, bWW, bW, le0, ne10, if_true, if_false, not_true_eq_false, not_false_eq_true, uI_at, uA_1, uB_1, uG_1, uI_2, e_no hM hn hi, m_kind hM hn hi, hk]
theorem e_cf2 {N h : Nat} {σ : SG} {s : AS} (hM : RM σ s) (hn : s.2.2.2 ≤ 40) {i : Nat} (hi : i < s.2.2.2) (hk : s.1 i 1 = 0) : DX10_checkField N (h + 275) (nI i) (HH h σ) = some 2 := by
  simp only [DX10_checkField, r_ck, r_0, r_1, r_2, r_3, r_4, r_5, r_6, r_7, r_8, r_9, r_10, r_11, r_12, r_13, r_14, r_15, r_16, r_17, r_18, r_19, r_20, r_21, r_22, r_23, r_24, r_25, r_26, r_27, r_28, r_29, r_30, r_31, r_32, r_33, r_34, r_35, r_36, r_37, rp_0, rp_1, rp_26, rp_28, rp_30, rp_33, rp_35, rp_37, Option.bind_some, bRT, bRW, bWW, bW, le0, ne10, if_true, if_false, not_true_eq_false, not_false_eq_true, uI_at, uA_1, uB_1, uG_1, uI_2, e_no hM hn hi, m_kind hM hn hi, hk]
theorem e_cf1 {N h : Nat} {σ : SG} {s : AS} (hM : RM σ s) {x : Int32} (hx : x < 0 ∨ nI s.2.2.2 ≤ x) : DX10_checkField N (h + 275) x (HH h σ) = some 1 := by
  simp only [DX10_checkField, r_ck, r_0, r_1, r_2, r_3, r_4, r_5, r_6, r_7, r_8, r_9, r_10, r_11, r_12, r_13, r_14, r_15, r_16, r_17, r_18, r_19, r_20, r_21, r_22, r_23, r_24, r_25, r_26, r_27, r_28, r_29, r_30, r_31, r_32, r_33, r_34, r_35, r_36, r_37, rp_0, rp_1, rp_26, rp_28, rp_30, rp_33, rp_35, rp_37, Option.bind_some, bRT, bRW, bWW, bW, le0, ne10, if_true, if_false, not_true_eq_false, not_false_eq_true, uI_at, uA_1, uB_1, uG_1, uI_2, e_no0 hM hx]
theorem le1 : ((1 : Int32) ≤ 0) = False := eq_false (by decide)
theorem le2 : ((2 : Int32) ≤ 0) = False := eq_false (by decide)
theorem le3 : ((3 : Int32) ≤ 0) = False := eq_false (by decide)
theorem le4 : ((4 : Int32) ≤ 0) = False := eq_false (by decide)
theorem op_lock {N h : Nat} {σ : SG} {s : AS} (hS : St σ s) (x v : Int32) (hv : v = 0 ∨ v = 1) : Out h σ s ex2 (DX9_lock N h x v (HH h σ)) (fun σ' => DX10_lock N (h + 275) x v (HH h σ')) := by
  obtain ⟨hC, hM, hI⟩ := hS
  have hn := hI.n40
  rcases ixc x hn with hx | ⟨i, hi, rfl⟩
  · refine Out.thr ⟨hC, hM, hI⟩ 1 (by omega) 0 ?_ (fun σ' hM' => ?_)
    · simp only [DX9_lock, o_ck, o_0, o_1, o_2, o_3, o_4, o_5, o_6, t_ck, t_0, v_ck, v_0, q_ck, q_0, q_1, q_2, q_3, q_4, wr_ck, wr_0, wr_1, wr_2, rd_ck, rd_0, rd_1, Option.bind_some, bRT, bRW, bWW, bW, le0, ne10, if_true, if_false, not_true_eq_false, not_false_eq_true, uI_at, uA_1, uB_1, uG_1, uI_2, e_mw1 hC hx]
      rfl
    · simp only [DX10_lock, r_ck, r_0, r_1, r_2, r_3, r_4, r_5, r_6, r_7, r_8, r_9, r_10, r_11, r_12, r_13, r_14, r_15, r_16, r_17, r_18, r_19, r_20, r_21, r_22, r_23, r_24, r_25, r_26, r_27, r_28, r_29, r_30, r_31, r_32, r_33, r_34, r_35, r_36, r_37, rp_0, rp_1, rp_26, rp_28, rp_30, rp_33, rp_35, rp_37, Option.bind_some, bRT, bRW, bWW, bW, le0, ne10, if_true, if_false, not_true_eq_false, not_false_eq_true, uI_at, uA_1, uB_1, uG_1, uI_2, e_cf1 hM' hx, le1]
      rfl
  · obtain ⟨m, hm, e, ek⟩ := hI.f hi
    have hm4 : m < 40 := by omega
    by_cases hk : s.1 i 1 = 0
    · refine Out.thr ⟨hC, hM, hI⟩ 2 (by omega) 0 ?_ (fun σ' hM' => ?_)
      · simp only [DX9_lock, o_ck, o_0, o_1, o_2, o_3, o_4, o_5, o_6, t_ck, t_0, v_ck, v_0, q_ck, q_0, q_1, q_2, q_3, q_4, wr_ck, wr_0, wr_1, wr_2, rd_ck, rd_0, rd_1, Option.bind_some, bRT, bRW, bWW, bW, le0, ne10, if_true, if_false, not_true_eq_false, not_false_eq_true, uI_at, uA_1, uB_1, uG_1, uI_2, e_mw2 hC hi hm e (ek.trans hk)]
        rfl
      · simp only [DX10_lock, r_ck, r_0, r_1, r_2, r_3, r_4, r_5, r_6, r_7, r_8, r_9, r_10, r_11, r_12, r_13, r_14, r_15, r_16, r_17, r_18, r_19, r_20, r_21, r_22, r_23, r_24, r_25, r_26, r_27, r_28, r_29, r_30, r_31, r_32, r_33, r_34, r_35, r_36, r_37, rp_0, rp_1, rp_26, rp_28, rp_30, rp_33, rp_35, rp_37, Option.bind_some, bRT, bRW, bWW, bW, le0, ne10, if_true, if_false, not_true_eq_false, not_false_eq_true, uI_at, uA_1, uB_1, uG_1, uI_2, e_cf2 hM' hn hi hk, le2]
        rfl
    · refine ⟨sA s m 6 v, uI σ (3 + 6 * m) 6 v, .inl (if s.1 m 6 = 0 then 0 else 1), ?_, hC.I hm4 (by omega) v, hI.at1 hm (by omega) ((hI.V hm).at1 (by omega)) ((hI.O hm).at1 (by omega)) (fun q => absurd q (by omega)), fc.I (by omega), fun σ' hM' => ⟨if s.1 m 6 = 0 then 0 else 1, uA (uI σ' 275 0 0) 296 m v, ?_, ?_, ?_, Or.inl ⟨rfl, ?_⟩⟩⟩
      · simp only [DX9_lock, DX9_lock_18, o_ck, o_0, o_1, o_2, o_3, o_4, o_5, o_6, t_ck, t_0, v_ck, v_0, q_ck, q_0, q_1, q_2, q_3, q_4, wr_ck, wr_0, wr_1, wr_2, rd_ck, rd_0, rd_1, Option.bind_some, bRT, bRW, bWW, bW, le0, ne10, if_true, if_false, not_true_eq_false, not_false_eq_true, uI_at, uA_1, uB_1, uG_1, uI_2, e_mw hC hi hm e (by rw [ek]; exact hk), k1 hm4, g7 hm4, g8 hm4, g9 hm4, c_0 hC hm4, c_1 hC hm4, c_2 hC hm4, c_3 hC hm4, c_4 hC hm4, c_5 hC hm4, c_6 hC hm4, c_10 hC hm4, c_11 hC hm4, c_12 hC hm4, c_13 hC hm4, c_14 hC hm4, c_15 hC hm4, c_16 hC hm4, c_t0 hC hm4, c_t1 hC hm4, c_t2 hC hm4, c_t3 hC hm4, c_t4 hC hm4, c_t5 hC hm4, c_t6 hC hm4, c_t7 hC hm4, hv, p_1_6 (kd_F hm4)]
        split <;> rfl
      · simp only [DX10_lock, DX10_lock_37, r_ck, r_0, r_1, r_2, r_3, r_4, r_5, r_6, r_7, r_8, r_9, r_10, r_11, r_12, r_13, r_14, r_15, r_16, r_17, r_18, r_19, r_20, r_21, r_22, r_23, r_24, r_25, r_26, r_27, r_28, r_29, r_30, r_31, r_32, r_33, r_34, r_35, r_36, r_37, rp_0, rp_1, rp_26, rp_28, rp_30, rp_33, rp_35, rp_37, Option.bind_some, bRT, bRW, bWW, bW, le0, ne10, if_true, if_false, not_true_eq_false, not_false_eq_true, uI_at, uA_1, uB_1, uG_1, uI_2, e_cf hM' hn hi hk, m_fst (hM'.thr 0) hn hi, e, m_lock (hM'.thr 0) hn hm, hv, sN2 (k := 296) rfl (show m < ln 296 from hm4)]
        split <;> rfl
      · exact (hM'.thr 0).lock (fun q hq => hC.len hq) hn hm
      · exact fm.I.tr (fm.A (by omega))
      · simp only [Option.bind_some, bRT, bRW, bWW, bW, le0, ne10, if_true, if_false, not_true_eq_false, not_false_eq_true, uI_at, uA_1, uB_1, uG_1, uI_2]
theorem Inv.lg {s : AS} {m j : Nat} {x : Int64} (h : Inv s) (hm : m < s.2.2.2) : Inv (sG s m j x) :=
  h.one hm rfl (fun q j' hj' => rfl) (fun q hq _ => ⟨rfl, by funext j'; simp [sG, hq], rfl⟩) (h.V hm) (h.O hm) (h.side hm)
theorem RM.lg {σ : SG} {s : AS} {m : Nat} {x y : Int64} (hM : RM σ s) (hC : ∀ q, q < 40 → (s.2.2.1 q 0).length ≤ 30 ∧ (s.2.2.1 q 1).length ≤ 12) (hn : s.2.2.2 ≤ 40) (hm : m < s.2.2.2) : RM (uB (uB σ 290 m x) 291 m y) (sG (sG s m 11 x) m 12 y) := by
  refine hM.one hC hn (by omega) (fun _ _ _ => rfl) (fun _ _ _ _ _ => rfl) (fun _ _ _ _ => rfl) (fun k c hc => by simp [uB, hc]) (fun _ => ?_) (hM.W (show m < 40 by omega)) rfl (fun q hq => ⟨rfl, by funext j'; simp [sG, hq], rfl⟩) (fun q => rfl)
  obtain ⟨b1, b7, ⟨b8, b9⟩, b10, b11, b12⟩ := hM.F hm
  exact ⟨b1, b7, ⟨by simp [uB, sG], by simp [uB, sG]⟩, b10, b11, b12⟩
theorem beF (p : Int64) : (p ≤ (999999999999 : Int64)) = ¬ ((999999999999 : Int64) < p) := by
  rw [Int64.lt_iff_toInt_lt, Int64.le_iff_toInt_le]
  exact propext (by omega)
theorem op_bounds {N h : Nat} {σ : SG} {s : AS} (hS : St σ s) (x : Int32) (p q : Int64) : Out h σ s ex2 (DX9_bounds N h x p q (HH h σ)) (fun σ' => DX10_bounds N (h + 275) x p q (HH h σ')) := by
  obtain ⟨hC, hM, hI⟩ := hS
  have hn := hI.n40
  rcases ixc x hn with hx | ⟨i, hi, rfl⟩
  · refine Out.thr ⟨hC, hM, hI⟩ 1 (by omega) () ?_ (fun σ' hM' => ?_)
    · simp only [DX9_bounds, o_ck, o_0, o_1, o_2, o_3, o_4, o_5, o_6, t_ck, t_0, v_ck, v_0, q_ck, q_0, q_1, q_2, q_3, q_4, wr_ck, wr_0, wr_1, wr_2, rd_ck, rd_0, rd_1, Option.bind_some, bRT, bRW, bWW, bW, le0, ne10, if_true, if_false, not_true_eq_false, not_false_eq_true, uI_at, uA_1, uB_1, uG_1, uI_2, e_tm0 hC hx]
      rfl
    · simp only [DX10_bounds, DX10_bounds_52, r_ck, r_0, r_1, r_2, r_3, r_4, r_5, r_6, r_7, r_8, r_9, r_10, r_11, r_12, r_13, r_14, r_15, r_16, r_17, r_18, r_19, r_20, r_21, r_22, r_23, r_24, r_25, r_26, r_27, r_28, r_29, r_30, r_31, r_32, r_33, r_34, r_35, r_36, r_37, rp_0, rp_1, rp_26, rp_28, rp_30, rp_33, rp_35, rp_37, Option.bind_some, bRT, bRW, bWW, bW, le0, ne10, if_true, if_false, not_true_eq_false, not_false_eq_true, uI_at, uA_1, uB_1, uG_1, uI_2, e_no0 hM' hx, le1]
      rfl
  · obtain ⟨m, hm, e, ek⟩ := hI.f hi
    have hm4 : m < 40 := by omega
    have bad : (s.1 i 1 = 5 → p < (-999999999999 : Int64) ∨ (999999999999 : Int64) < q ∨ ¬ p ≤ q) → Out h σ s ex2 (DX9_bounds N h (nI i) p q (HH h σ)) (fun σ' => DX10_bounds N (h + 275) (nI i) p q (HH h σ')) := fun hb => by
      refine Out.thr ⟨hC, hM, hI⟩ 2 (by omega) () ?_ (fun σ' hM' => ?_)
      · simp only [DX9_bounds, DX0_isBeyond, beF, o_ck, o_0, o_1, o_2, o_3, o_4, o_5, o_6, t_ck, t_0, v_ck, v_0, q_ck, q_0, q_1, q_2, q_3, q_4, wr_ck, wr_0, wr_1, wr_2, rd_ck, rd_0, rd_1, Option.bind_some, bRT, bRW, bWW, bW, le0, ne10, if_true, if_false, not_true_eq_false, not_false_eq_true, uI_at, uA_1, uB_1, uG_1, uI_2, e_tm hC hi hm e, k1 hm4, g7 hm4, g8 hm4, g9 hm4, c_0 hC hm4, c_1 hC hm4, c_2 hC hm4, c_3 hC hm4, c_4 hC hm4, c_5 hC hm4, c_6 hC hm4, c_10 hC hm4, c_11 hC hm4, c_12 hC hm4, c_13 hC hm4, c_14 hC hm4, c_15 hC hm4, c_16 hC hm4, c_t0 hC hm4, c_t1 hC hm4, c_t2 hC hm4, c_t3 hC hm4, c_t4 hC hm4, c_t5 hC hm4, c_t6 hC hm4, c_t7 hC hm4, ek]
        by_cases c0 : s.1 i 1 = 5
        · rw [if_pos c0]
          by_cases c1 : p < (-999999999999 : Int64)
          · simp only [c1, Option.bind_some, bRT, bRW, bWW, bW, le0, ne10, if_true, if_false, not_true_eq_false, not_false_eq_true, uI_at, uA_1, uB_1, uG_1, uI_2]; rfl
          · by_cases c2 : (999999999999 : Int64) < p
            · simp only [c1, c2, Option.bind_some, bRT, bRW, bWW, bW, le0, ne10, if_true, if_false, not_true_eq_false, not_false_eq_true, uI_at, uA_1, uB_1, uG_1, uI_2]; rfl
            · by_cases c3 : q < (-999999999999 : Int64)
              · simp only [c1, c2, c3, Option.bind_some, bRT, bRW, bWW, bW, le0, ne10, if_true, if_false, not_true_eq_false, not_false_eq_true, uI_at, uA_1, uB_1, uG_1, uI_2]; rfl
              · by_cases c4 : (999999999999 : Int64) < q
                · simp only [c1, c2, c3, c4, Option.bind_some, bRT, bRW, bWW, bW, le0, ne10, if_true, if_false, not_true_eq_false, not_false_eq_true, uI_at, uA_1, uB_1, uG_1, uI_2]; rfl
                · have c5 := ((hb c0).resolve_left c1).resolve_left c4
                  simp only [c1, c2, c3, c4, c5, Option.bind_some, bRT, bRW, bWW, bW, le0, ne10, if_true, if_false, not_true_eq_false, not_false_eq_true, uI_at, uA_1, uB_1, uG_1, uI_2]; rfl
        · rw [if_neg c0]; rfl
      · simp only [DX10_bounds, DX10_bounds_52, DX10_bounds_47, r_ck, r_0, r_1, r_2, r_3, r_4, r_5, r_6, r_7, r_8, r_9, r_10, r_11, r_12, r_13, r_14, r_15, r_16, r_17, r_18, r_19, r_20, r_21, r_22, r_23, r_24, r_25, r_26, r_27, r_28, r_29, r_30, r_31, r_32, r_33, r_34, r_35, r_36, r_37, rp_0, rp_1, rp_26, rp_28, rp_30, rp_33, rp_35, rp_37, Option.bind_some, bRT, bRW, bWW, bW, le0, ne10, if_true, if_false, not_true_eq_false, not_false_eq_true, uI_at, uA_1, uB_1, uG_1, uI_2, e_no hM' hn hi, m_kind hM' hn hi]
        by_cases c0 : s.1 i 1 = 5
        · rw [if_pos c0]
          by_cases c1 : p < (-999999999999 : Int64)
          · rw [if_pos c1]; rfl
          · by_cases c4 : (999999999999 : Int64) < q
            · rw [if_neg c1, if_pos c4]; rfl
            · rw [if_neg c1, if_neg c4, if_neg (((hb c0).resolve_left c1).resolve_left c4)]; rfl
        · rw [if_neg c0]; rfl
    by_cases c0 : s.1 i 1 = 5
    · by_cases c1 : p < (-999999999999 : Int64)
      · exact bad (fun _ => Or.inl c1)
      · by_cases c4 : (999999999999 : Int64) < q
        · exact bad (fun _ => Or.inr (Or.inl c4))
        · by_cases c5 : p ≤ q
          · have c2 : ¬ (999999999999 : Int64) < p := fun w => c4 (by rw [Int64.lt_iff_toInt_lt] at w ⊢; rw [Int64.le_iff_toInt_le] at c5; omega)
            have c3 : ¬ q < (-999999999999 : Int64) := fun w => c1 (by rw [Int64.lt_iff_toInt_lt] at w ⊢; rw [Int64.le_iff_toInt_le] at c5; omega)
            refine ⟨sG (sG s m 11 p) m 12 q, uG (uG σ (3 + 6 * m) 11 p) (3 + 6 * m) 12 q, .inl (), ?_, (hC.G hm4 p).G hm4 q, (hI.lg hm).lg hm, (fc.G (by omega)).tr (fc.G (by omega)), fun σ' hM' => ⟨(), uB (uB (uI σ' 275 0 0) 290 m p) 291 m q, ?_, ?_, ?_, Or.inl ⟨rfl, ?_⟩⟩⟩
            · simp only [DX9_bounds, DX0_isBeyond, beF, o_ck, o_0, o_1, o_2, o_3, o_4, o_5, o_6, t_ck, t_0, v_ck, v_0, q_ck, q_0, q_1, q_2, q_3, q_4, wr_ck, wr_0, wr_1, wr_2, rd_ck, rd_0, rd_1, Option.bind_some, bRT, bRW, bWW, bW, le0, ne10, if_true, if_false, not_true_eq_false, not_false_eq_true, uI_at, uA_1, uB_1, uG_1, uI_2, e_tm hC hi hm e, k1 hm4, g7 hm4, g8 hm4, g9 hm4, c_0 hC hm4, c_1 hC hm4, c_2 hC hm4, c_3 hC hm4, c_4 hC hm4, c_5 hC hm4, c_6 hC hm4, c_10 hC hm4, c_11 hC hm4, c_12 hC hm4, c_13 hC hm4, c_14 hC hm4, c_15 hC hm4, c_16 hC hm4, c_t0 hC hm4, c_t1 hC hm4, c_t2 hC hm4, c_t3 hC hm4, c_t4 hC hm4, c_t5 hC hm4, c_t6 hC hm4, c_t7 hC hm4, ek, c0, c1, c2, c3, c4, c5, p_1_11 (kd_F hm4), p_1_12 (kd_F hm4)]
            · simp only [DX10_bounds, DX10_bounds_52, r_ck, r_0, r_1, r_2, r_3, r_4, r_5, r_6, r_7, r_8, r_9, r_10, r_11, r_12, r_13, r_14, r_15, r_16, r_17, r_18, r_19, r_20, r_21, r_22, r_23, r_24, r_25, r_26, r_27, r_28, r_29, r_30, r_31, r_32, r_33, r_34, r_35, r_36, r_37, rp_0, rp_1, rp_26, rp_28, rp_30, rp_33, rp_35, rp_37, Option.bind_some, bRT, bRW, bWW, bW, le0, ne10, if_true, if_false, not_true_eq_false, not_false_eq_true, uI_at, uA_1, uB_1, uG_1, uI_2, e_no hM' hn hi, m_kind hM' hn hi, c0, c1, c4, c5, m_fst (hM'.thr 0) hn hi, e, sN1 (k := 290) rfl (show m < ln 290 from hm4)]
              have hM2 : RM (uB (uI σ' 275 0 0) 290 m p) (sG s m 11 p) := by
                refine (hM'.thr 0).one (fun q hq => hC.len hq) hn hm4 (fun _ _ _ => rfl) (fun _ _ _ _ _ => rfl) (fun _ _ _ _ => rfl) (fun k c hc => by simp [uB, hc]) (fun _ => ?_) ((hM'.thr 0).W hm4) rfl (fun q hq => ⟨rfl, by funext j'; simp [sG, hq], rfl⟩) (fun q => rfl)
                obtain ⟨b1, b7, ⟨b8, b9⟩, b10, b11, b12⟩ := (hM'.thr 0).F hm
                exact ⟨b1, b7, ⟨by simp [uB, sG], by simpa [uB, sG] using b9⟩, b10, b11, b12⟩
              have := m_fst (h := h) hM2 hn hi
              have e2 : (sG s m 11 p).1 i 4 = nI m := e
              simp only [this, e2, Option.bind_some, bRT, bRW, bWW, bW, le0, ne10, if_true, if_false, not_true_eq_false, not_false_eq_true, uI_at, uA_1, uB_1, uG_1, uI_2, sN1 (k := 291) rfl (show m < ln 291 from hm4)]
            · exact (hM'.thr 0).lg (fun q hq => hC.len hq) hn hm
            · exact (fm.I.tr (fm.B (by omega))).tr (fm.B (by omega))
            · simp only [Option.bind_some, bRT, bRW, bWW, bW, le0, ne10, if_true, if_false, not_true_eq_false, not_false_eq_true, uI_at, uA_1, uB_1, uG_1, uI_2]
          · exact bad (fun _ => Or.inr (Or.inr c5))
    · exact bad (fun w => absurd w c0)
