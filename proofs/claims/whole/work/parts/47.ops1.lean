/-! fails, lock, bounds -/
theorem Inv.at1 {s : AS} {m j : Nat} {x : Int32} (h : Inv s) (hm : m < s.2.2.2) (hj : 4 < j) (hV : VI (sA s m j x) m) (hO : OI (sA s m j x) m) (hD : j = 27 → sd x) : Inv (sA s m j x) :=
  h.one hm rfl (fun q j' hj' => by simp only [sA]; rw [if_neg (by omega)]) (fun q hq _ => ⟨by funext j'; simp [sA, hq], rfl, rfl⟩) hV hO (by
    show sd (if m = m ∧ 27 = j then x else s.1 m 27)
    by_cases e : j = 27
    · rw [if_pos ⟨rfl, e.symm⟩]; exact hD e
    · rw [if_neg (by omega)]; exact h.side hm)
theorem VI.at1 {s : AS} {m j : Nat} {x : Int32} (h : VI s m) (hj : 4 < j ∧ j ≠ 10 ∧ j ≠ 21 ∧ j ≠ 23) : VI (sA s m j x) m := by
  have e : ∀ q, q = 1 ∨ q = 10 ∨ q = 21 ∨ q = 23 → (sA s m j x).1 m q = s.1 m q := fun q hq => by simp only [sA]; rw [if_neg (by omega)]
  unfold VI at h ⊢
  rw [e 1 (by simp), e 10 (by simp), e 21 (by simp), e 23 (by simp)]
  exact h
theorem OI.at1 {s : AS} {m j : Nat} {x : Int32} (h : OI s m) (hj : 4 < j ∧ j ≠ 13 ∧ j ≠ 14 ∧ j ≠ 15) : OI (sA s m j x) m := by
  have e : ∀ r q, q = 1 ∨ q = 4 ∨ q = 13 ∨ q = 14 ∨ q = 15 → (sA s m j x).1 r q = s.1 r q := fun r q hq => by simp only [sA]; rw [if_neg (by omega)]
  unfold OI at h ⊢
  simp only [e m 1 (by simp), e m 4 (by simp), e m 13 (by simp), e m 14 (by simp), e m 15 (by simp), e _ 1 (Or.inl rfl)]
  exact h
theorem op_fails {N h : Nat} {σ : SG} {s : AS} (hS : St σ s) (x v : Int32) (hv : v = 0 ∨ v = 1) : Out h σ s ex2 (DX9_fails N h x v (HH h σ)) (fun σ' => DX10_fails N (h + 275) x v (HH h σ')) := by
  obtain ⟨hC, hM, hI⟩ := hS
  have hn := hI.n40
  rcases ixc x hn with hx | ⟨i, hi, rfl⟩
  · refine Out.thr ⟨hC, hM, hI⟩ 1 (by omega) 0 ?_ (fun σ' hM' => ?_)
    · simp [DX9_fails, o_ck, o_0, o_1, o_2, o_3, o_4, o_5, o_6, t_ck, t_0, v_ck, v_0, q_ck, q_0, q_1, q_2, q_3, q_4, wr_ck, wr_0, wr_1, wr_2, rd_ck, rd_0, rd_1, Option.bind_some, bRT, bRW, bWW, bW, le0, ne10, if_true, if_false, not_true_eq_false, not_false_eq_true, uI_at, uA_1, uB_1, uG_1, uI_2, e_tm0 hC hx, ex2]
    · simp [DX10_fails, DX10_fails_28, r_ck, r_0, r_1, r_2, r_3, r_4, r_5, r_6, r_7, r_8, r_9, r_10, r_11, r_12, r_13, r_14, r_15, r_16, r_17, r_18, r_19, r_20, r_21, r_22, r_23, r_24, r_25, r_26, r_27, r_28, r_29, r_30, r_31, r_32, r_33, r_34, r_35, r_36, r_37, rp_0, rp_1, rp_26, rp_28, rp_30, rp_33, rp_35, rp_37, Option.bind_some, bRT, bRW, bWW, bW, le0, ne10, if_true, if_false, not_true_eq_false, not_false_eq_true, uI_at, uA_1, uB_1, uG_1, uI_2, e_no0 hM' hx, uI_at]
      rfl
  · obtain ⟨m, hm, e, ek⟩ := hI.f hi
    have hm4 : m < 40 := by omega
    by_cases hk : s.1 i 1 = 5
    · refine ⟨sA s m 16 v, uI σ (3 + 6 * m) 16 v, .inl (if s.1 m 16 = 0 then 0 else 1), ?_, hC.I hm4 (by omega) v, hI.at1 hm (by omega) ((hI.V hm).at1 (by omega)) ((hI.O hm).at1 (by omega)) (fun q => absurd q (by omega)), fc.I (by omega), fun σ' hM' => ⟨if s.1 m 16 = 0 then 0 else 1, uA (uI σ' 275 0 0) 295 m v, ?_, ?_, ?_, Or.inl ⟨rfl, ?_⟩⟩⟩
      · simp only [DX9_fails, DX9_fails_37, o_ck, o_0, o_1, o_2, o_3, o_4, o_5, o_6, t_ck, t_0, v_ck, v_0, q_ck, q_0, q_1, q_2, q_3, q_4, wr_ck, wr_0, wr_1, wr_2, rd_ck, rd_0, rd_1, Option.bind_some, bRT, bRW, bWW, bW, le0, ne10, if_true, if_false, not_true_eq_false, not_false_eq_true, uI_at, uA_1, uB_1, uG_1, uI_2, e_tm hC hi hm e, k1 hm4, g7 hm4, g8 hm4, g9 hm4, c_0 hC hm4, c_1 hC hm4, c_2 hC hm4, c_3 hC hm4, c_4 hC hm4, c_5 hC hm4, c_6 hC hm4, c_10 hC hm4, c_11 hC hm4, c_12 hC hm4, c_13 hC hm4, c_14 hC hm4, c_15 hC hm4, c_16 hC hm4, c_t0 hC hm4, c_t1 hC hm4, c_t2 hC hm4, c_t3 hC hm4, c_t4 hC hm4, c_t5 hC hm4, c_t6 hC hm4, c_t7 hC hm4, ek, hk, if_true, hv, p_1_16 (kd_F hm4)]
        split <;> rfl
      · simp only [DX10_fails, DX10_fails_28, DX10_fails_59, r_ck, r_0, r_1, r_2, r_3, r_4, r_5, r_6, r_7, r_8, r_9, r_10, r_11, r_12, r_13, r_14, r_15, r_16, r_17, r_18, r_19, r_20, r_21, r_22, r_23, r_24, r_25, r_26, r_27, r_28, r_29, r_30, r_31, r_32, r_33, r_34, r_35, r_36, r_37, rp_0, rp_1, rp_26, rp_28, rp_30, rp_33, rp_35, rp_37, Option.bind_some, bRT, bRW, bWW, bW, le0, ne10, if_true, if_false, not_true_eq_false, not_false_eq_true, uI_at, uA_1, uB_1, uG_1, uI_2, e_no hM' hn hi, m_kind hM' hn hi, hk, if_true, uI_at, m_fst (hM'.thr 0) hn hi, e, m_failing (hM'.thr 0) hn hm, hv, sN2 (k := 295) rfl (show m < ln 295 from hm4)]
        split <;> rfl
      · exact (hM'.thr 0).failing (fun q hq => hC.len hq) hn hm
      · exact fm.I.tr (fm.A (by omega))
      · simp only [Option.bind_some, bRT, bRW, bWW, bW, le0, ne10, if_true, if_false, not_true_eq_false, not_false_eq_true, uI_at, uA_1, uB_1, uG_1, uI_2]
    · refine Out.thr ⟨hC, hM, hI⟩ 2 (by omega) 0 ?_ (fun σ' hM' => ?_)
      · simp [DX9_fails, o_ck, o_0, o_1, o_2, o_3, o_4, o_5, o_6, t_ck, t_0, v_ck, v_0, q_ck, q_0, q_1, q_2, q_3, q_4, wr_ck, wr_0, wr_1, wr_2, rd_ck, rd_0, rd_1, Option.bind_some, bRT, bRW, bWW, bW, le0, ne10, if_true, if_false, not_true_eq_false, not_false_eq_true, uI_at, uA_1, uB_1, uG_1, uI_2, e_tm hC hi hm e, k1 hm4, g7 hm4, g8 hm4, g9 hm4, c_0 hC hm4, c_1 hC hm4, c_2 hC hm4, c_3 hC hm4, c_4 hC hm4, c_5 hC hm4, c_6 hC hm4, c_10 hC hm4, c_11 hC hm4, c_12 hC hm4, c_13 hC hm4, c_14 hC hm4, c_15 hC hm4, c_16 hC hm4, c_t0 hC hm4, c_t1 hC hm4, c_t2 hC hm4, c_t3 hC hm4, c_t4 hC hm4, c_t5 hC hm4, c_t6 hC hm4, c_t7 hC hm4, ek, hk, ex2]
      · simp [DX10_fails, DX10_fails_28, r_ck, r_0, r_1, r_2, r_3, r_4, r_5, r_6, r_7, r_8, r_9, r_10, r_11, r_12, r_13, r_14, r_15, r_16, r_17, r_18, r_19, r_20, r_21, r_22, r_23, r_24, r_25, r_26, r_27, r_28, r_29, r_30, r_31, r_32, r_33, r_34, r_35, r_36, r_37, rp_0, rp_1, rp_26, rp_28, rp_30, rp_33, rp_35, rp_37, Option.bind_some, bRT, bRW, bWW, bW, le0, ne10, if_true, if_false, not_true_eq_false, not_false_eq_true, uI_at, uA_1, uB_1, uG_1, uI_2, e_no hM' hn hi, m_kind hM' hn hi, hk, uI_at]
        rfl
