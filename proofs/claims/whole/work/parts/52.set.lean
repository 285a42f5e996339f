/-! set -/
theorem bad_set {N h : Nat} {σ : SG} {s : AS} (hS : St σ s) {i m : Nat} (hi : i < s.2.2.2) (hm : m < s.2.2.2) (e : s.1 i 4 = nI m) (w v : Int32) (hc : DX2_maySetTo N (h + (3 + 6 * m)) w v (HH h σ) = some 0) (hr : s.1 m 1 = 0 ∨ ∀ σ', RM σ' s → DX10_maySet N (h + 275) (nI m) w v (HH h σ') = some 0) : Out h σ s ex2 (DX9_set N h (nI i) w v (HH h σ)) (fun σ' => DX10_set N (h + 275) (nI i) w v (HH h σ')) := by
  obtain ⟨hC, hM, hI⟩ := hS
  have hn := hI.n40
  refine Out.thr ⟨hC, hM, hI⟩ 2 (by omega) 0 ?_ (fun σ' hM' => ?_)
  · simp only [DX9_set, o_ck, o_0, o_1, o_2, o_3, o_4, o_5, o_6, t_ck, t_0, v_ck, v_0, q_ck, q_0, q_1, q_2, q_3, q_4, wr_ck, wr_0, wr_1, wr_2, rd_ck, rd_0, rd_1, Option.bind_some, bRT, bRW, bWW, bW, le0, ne10, if_true, if_false, not_true_eq_false, not_false_eq_true, uI_at, uA_1, uB_1, uG_1, uI_2, e_tg hC hi, e_tm hC hi hm e, hc]
    rfl
  · have hM0 := hM'.thr 0
    simp only [DX10_set, DX10_set_14, DX10_set_56, DX10_set_61, r_ck, r_0, r_1, r_2, r_3, r_4, r_5, r_6, r_7, r_8, r_9, r_10, r_11, r_12, r_13, r_14, r_15, r_16, r_17, r_18, r_19, r_20, r_21, r_22, r_23, r_24, r_25, r_26, r_27, r_28, r_29, r_30, r_31, r_32, r_33, r_34, r_35, r_36, r_37, rp_0, rp_1, rp_26, rp_28, rp_30, rp_33, rp_35, rp_37, Option.bind_some, bRT, bRW, bWW, bW, le0, ne10, if_true, if_false, not_true_eq_false, not_false_eq_true, uI_at, uA_1, uB_1, uG_1, uI_2, e_no hM' hn hi, m_fst hM0 hn hi, e, m_kind hM0 hn hm, le2, uI_uI]
    rcases hr with k | k
    · rw [if_pos k]; rfl
    · rw [k _ hM0]
      simp only [Option.bind_some, bRT, bRW, bWW, bW, le0, ne10, if_true, if_false, not_true_eq_false, not_false_eq_true, uI_at, uA_1, uB_1, uG_1, uI_2]
      split <;> rfl
theorem mst_set {N h : Nat} {σ : SG} {s : AS} (hS : St σ s) {i m : Nat} (hi : i < s.2.2.2) (hm : m < s.2.2.2) (e : s.1 i 4 = nI m) (hk : ¬ s.1 m 1 = 0) {w : Nat} (hw : w < 5) (v : Int32) (hc : DX2_maySetTo N (h + (3 + 6 * m)) (nI w) v (HH h σ) = some 1) (hr : ∀ σ', RM σ' s → DX10_maySet N (h + 275) (nI m) (nI w) v (HH h σ') = some 1) (hV : VI (sA s m (20 + w) v) m) (hK : ∀ σ', RM σ' s → RM (uA σ' 289 (5 * m + w) v) (sA s m (20 + w) v)) : Out h σ s ex2 (DX9_set N h (nI i) (nI w) v (HH h σ)) (fun σ' => DX10_set N (h + 275) (nI i) (nI w) v (HH h σ')) := by
  obtain ⟨hC, hM, hI⟩ := hS
  have hn := hI.n40
  have hm4 : m < 40 := by omega
  have hlt : w < ln (3 + 6 * m + 1) := by rw [ln_T hm4]; omega
  refine ⟨sA s m (20 + w) v, uA σ (3 + 6 * m + 1) w v, .inl (s.1 m (20 + w)), ?_, hC.T hm4 (by omega) v, hI.at1 hm (by omega) hV ((hI.O hm).at1 (by omega)) (fun q => absurd q (by omega)), fc.A (by omega), fun σ' hM' => ⟨s.1 m (20 + w), uA (uI σ' 275 0 0) 289 (5 * m + w) v, ?_, hK _ (hM'.thr 0), fm.I.tr (fm.A (by omega)), Or.inl ⟨rfl, by simp only [Option.bind_some, bRT, bRW, bWW, bW, le0, ne10, if_true, if_false, not_true_eq_false, not_false_eq_true, uI_at, uA_1, uB_1, uG_1, uI_2]⟩⟩⟩
  · simp only [DX9_set, DX2_change, o_ck, o_0, o_1, o_2, o_3, o_4, o_5, o_6, t_ck, t_0, v_ck, v_0, q_ck, q_0, q_1, q_2, q_3, q_4, wr_ck, wr_0, wr_1, wr_2, rd_ck, rd_0, rd_1, Option.bind_some, bRT, bRW, bWW, bW, le0, ne10, if_true, if_false, not_true_eq_false, not_false_eq_true, uI_at, uA_1, uB_1, uG_1, uI_2, e_tg hC hi, e_tm hC hi hm e, hc, show (nI w < (5 : Int32)) = True from eq_true (nI_lt (b := 5) hw (by omega)), k1 hm4, nI_pos (show w < 2 ^ 31 by omega), g7 hm4, al_0 (kd_T hm4), ln_T hm4, show (nI w < nI 8) = True from eq_true (nI_lt (by omega) (by omega)), aN0 (kd_T hm4) hlt, sN0 (kd_T hm4) hlt, (hC.F hm4).2.1 w (by omega)]
  · have hM0 := hM'.thr 0
    have x5 : ¬ nI w = (5 : Int32) := fun q => by have := (nI_eq (b := 5) (by omega) (by omega)).mp q; omega
    have x6 : ¬ nI w = (6 : Int32) := fun q => by have := (nI_eq (b := 6) (by omega) (by omega)).mp q; omega
    have x7 : ¬ nI w = (7 : Int32) := fun q => by have := (nI_eq (b := 7) (by omega) (by omega)).mp q; omega
    have h5 : (5 : Int32) * nI m + nI w = nI (5 * m + w) := by rw [n5, nI_add]
    simp only [DX10_set, DX10_set_14, DX10_set_61, DX10_set_128, r_ck, r_0, r_1, r_2, r_3, r_4, r_5, r_6, r_7, r_8, r_9, r_10, r_11, r_12, r_13, r_14, r_15, r_16, r_17, r_18, r_19, r_20, r_21, r_22, r_23, r_24, r_25, r_26, r_27, r_28, r_29, r_30, r_31, r_32, r_33, r_34, r_35, r_36, r_37, rp_0, rp_1, rp_26, rp_28, rp_30, rp_33, rp_35, rp_37, Option.bind_some, bRT, bRW, bWW, bW, le0, ne10, if_true, if_false, not_true_eq_false, not_false_eq_true, uI_at, uA_1, uB_1, uG_1, uI_2, e_no hM' hn hi, m_fst hM0 hn hi, e, m_kind hM0 hn hm, hk, hr _ hM0, uI_uI, x5, x6, x7, h5, m_set hM0 hn hm hw, sN0 (k := 289) rfl (show 5 * m + w < ln 289 from show _ < 200 by omega)]
theorem own_set {N h : Nat} {σ : SG} {s : AS} (hS : St σ s) {i m : Nat} (hi : i < s.2.2.2) (hm : m < s.2.2.2) (e : s.1 i 4 = nI m) (hk : ¬ s.1 m 1 = 0) {w : Nat} (hw : 5 ≤ w ∧ w < 8) (v : Int32) (hc : DX2_maySetTo N (h + (3 + 6 * m)) (nI w) v (HH h σ) = some 1) (hr : ∀ σ', RM σ' s → DX10_maySet N (h + 275) (nI m) (nI w) v (HH h σ') = some 1) (hsd : w = 7 → sd v) : Out h σ s ex2 (DX9_set N h (nI i) (nI w) v (HH h σ)) (fun σ' => DX10_set N (h + 275) (nI i) (nI w) v (HH h σ')) := by
  obtain ⟨hC, hM, hI⟩ := hS
  have hn := hI.n40
  have hi4 : i < 40 := by omega
  have hlen : ∀ q, q < 40 → (s.2.2.1 q 0).length ≤ 30 ∧ (s.2.2.1 q 1).length ≤ 12 := fun q hq => hC.len hq
  have hlt : w < ln (3 + 6 * i + 1) := by rw [ln_T hi4]; omega
  have hcl : DX9_set N h (nI i) (nI w) v (HH h σ) = some (.inl (s.1 i (20 + w)), HH h (uA σ (3 + 6 * i + 1) w v)) := by
    simp only [DX9_set, DX2_change, o_ck, o_0, o_1, o_2, o_3, o_4, o_5, o_6, t_ck, t_0, v_ck, v_0, q_ck, q_0, q_1, q_2, q_3, q_4, wr_ck, wr_0, wr_1, wr_2, rd_ck, rd_0, rd_1, Option.bind_some, bRT, bRW, bWW, bW, le0, ne10, if_true, if_false, not_true_eq_false, not_false_eq_true, uI_at, uA_1, uB_1, uG_1, uI_2, e_tg hC hi, e_tm hC hi hm e, hc, show (nI w < (5 : Int32)) = False from eq_false (nI_nlt (b := 5) hw.1 (by omega)), k1 hi4, nI_pos (show w < 2 ^ 31 by omega), g7 hi4, al_0 (kd_T hi4), ln_T hi4, show (nI w < nI 8) = True from eq_true (nI_lt (by omega) (by omega)), aN0 (kd_T hi4) hlt, sN0 (kd_T hi4) hlt, (hC.F hi4).2.1 w (by omega)]
  have hi2 : Inv (sA s i (20 + w) v) := hI.at1 hi (by omega) ((hI.V hi).at1 (by omega)) ((hI.O hi).at1 (by omega)) (fun q => hsd (by omega))
  rcases (show w = 5 ∨ w = 6 ∨ w = 7 by omega) with rfl | rfl | rfl
  · refine ⟨sA s i 25 v, uA σ (3 + 6 * i + 1) 5 v, .inl (s.1 i 25), hcl, hC.T hi4 (by omega) v, hi2, fc.A (by omega), fun σ' hM' => ⟨s.1 i 25, uA (uI σ' 275 0 0) 280 i v, ?_, (hM'.thr 0).wid hlen hn hi, fm.I.tr (fm.A (by omega)), Or.inl ⟨rfl, by simp only [Option.bind_some, bRT, bRW, bWW, bW, le0, ne10, if_true, if_false, not_true_eq_false, not_false_eq_true, uI_at, uA_1, uB_1, uG_1, uI_2]⟩⟩⟩
    have hM0 := hM'.thr 0
    simp only [DX10_set, DX10_set_14, DX10_set_61, DX10_set_128, r_ck, r_0, r_1, r_2, r_3, r_4, r_5, r_6, r_7, r_8, r_9, r_10, r_11, r_12, r_13, r_14, r_15, r_16, r_17, r_18, r_19, r_20, r_21, r_22, r_23, r_24, r_25, r_26, r_27, r_28, r_29, r_30, r_31, r_32, r_33, r_34, r_35, r_36, r_37, rp_0, rp_1, rp_26, rp_28, rp_30, rp_33, rp_35, rp_37, Option.bind_some, bRT, bRW, bWW, bW, le0, ne10, if_true, if_false, not_true_eq_false, not_false_eq_true, uI_at, uA_1, uB_1, uG_1, uI_2, e_no hM' hn hi, m_fst hM0 hn hi, e, m_kind hM0 hn hm, hk, hr _ hM0, uI_uI, show (nI 5 = (5 : Int32)) = True from eq_true rfl, m_wid hM0 hn hi, sN0 (k := 280) rfl (show i < ln 280 from hi4)]
  · refine ⟨sA s i 26 v, uA σ (3 + 6 * i + 1) 6 v, .inl (s.1 i 26), hcl, hC.T hi4 (by omega) v, hi2, fc.A (by omega), fun σ' hM' => ⟨s.1 i 26, uA (uI σ' 275 0 0) 281 i v, ?_, (hM'.thr 0).hei hlen hn hi, fm.I.tr (fm.A (by omega)), Or.inl ⟨rfl, by simp only [Option.bind_some, bRT, bRW, bWW, bW, le0, ne10, if_true, if_false, not_true_eq_false, not_false_eq_true, uI_at, uA_1, uB_1, uG_1, uI_2]⟩⟩⟩
    have hM0 := hM'.thr 0
    simp only [DX10_set, DX10_set_14, DX10_set_61, DX10_set_128, r_ck, r_0, r_1, r_2, r_3, r_4, r_5, r_6, r_7, r_8, r_9, r_10, r_11, r_12, r_13, r_14, r_15, r_16, r_17, r_18, r_19, r_20, r_21, r_22, r_23, r_24, r_25, r_26, r_27, r_28, r_29, r_30, r_31, r_32, r_33, r_34, r_35, r_36, r_37, rp_0, rp_1, rp_26, rp_28, rp_30, rp_33, rp_35, rp_37, Option.bind_some, bRT, bRW, bWW, bW, le0, ne10, if_true, if_false, not_true_eq_false, not_false_eq_true, uI_at, uA_1, uB_1, uG_1, uI_2, e_no hM' hn hi, m_fst hM0 hn hi, e, m_kind hM0 hn hm, hk, hr _ hM0, uI_uI, show (nI 6 = (5 : Int32)) = False from eq_false (by decide), show (nI 6 = (6 : Int32)) = True from eq_true rfl, m_hei hM0 hn hi, sN0 (k := 281) rfl (show i < ln 281 from hi4)]
  · refine ⟨sA s i 27 v, uA σ (3 + 6 * i + 1) 7 v, .inl (s.1 i 27), hcl, hC.T hi4 (by omega) v, hi2, fc.A (by omega), fun σ' hM' => ⟨s.1 i 27, uA (uI σ' 275 0 0) 282 i v, ?_, (hM'.thr 0).sid hlen hn hi, fm.I.tr (fm.A (by omega)), Or.inl ⟨rfl, by simp only [Option.bind_some, bRT, bRW, bWW, bW, le0, ne10, if_true, if_false, not_true_eq_false, not_false_eq_true, uI_at, uA_1, uB_1, uG_1, uI_2]⟩⟩⟩
    have hM0 := hM'.thr 0
    simp only [DX10_set, DX10_set_14, DX10_set_61, DX10_set_128, r_ck, r_0, r_1, r_2, r_3, r_4, r_5, r_6, r_7, r_8, r_9, r_10, r_11, r_12, r_13, r_14, r_15, r_16, r_17, r_18, r_19, r_20, r_21, r_22, r_23, r_24, r_25, r_26, r_27, r_28, r_29, r_30, r_31, r_32, r_33, r_34, r_35, r_36, r_37, rp_0, rp_1, rp_26, rp_28, rp_30, rp_33, rp_35, rp_37, Option.bind_some, bRT, bRW, bWW, bW, le0, ne10, if_true, if_false, not_true_eq_false, not_false_eq_true, uI_at, uA_1, uB_1, uG_1, uI_2, e_no hM' hn hi, m_fst hM0 hn hi, e, m_kind hM0 hn hm, hk, hr _ hM0, uI_uI, show (nI 7 = (5 : Int32)) = False from eq_false (by decide), show (nI 7 = (6 : Int32)) = False from eq_false (by decide), show (nI 7 = (7 : Int32)) = True from eq_true rfl, m_sid hM0 hn hi, sN0 (k := 282) rfl (show i < ln 282 from hi4)]
/-! which settings may be set: the same on both sides -/
abbrev ms (s : AS) (m : Nat) (w v : Int32) : Prop :=
  (w = 0 ∧ ¬ s.1 m 1 = 0 ∧ (v = 0 ∨ v = 1)) ∨ (w = 1 ∧ s.1 m 1 = 1 ∧ (v = 0 ∨ (¬ v < nI (s.2.2.1 m 0).length ∧ ¬ (30 : Int32) < v))) ∨ (w = 2 ∧ s.1 m 1 = 3 ∧ (v = 0 ∨ v = 1)) ∨ (w = 3 ∧ s.1 m 1 = 5 ∧ ¬ v < 0 ∧ ¬ (3 : Int32) < v) ∨ (w = 4 ∧ s.1 m 1 = 5 ∧ (v = 0 ∨ v = 1)) ∨ ((w = 5 ∨ w = 6) ∧ ¬ s.1 m 1 = 0 ∧ ¬ v < 0 ∧ ¬ (100000 : Int32) < v) ∨ (w = 7 ∧ ¬ s.1 m 1 = 0 ∧ ¬ v < 0 ∧ ¬ (2 : Int32) < v)
theorem e_isFlag {N : Nat} {f : HF} (v : Int32) : DX2_isFlag N v f = some (if v = 0 ∨ v = 1 then 1 else 0) := by
  unfold DX2_isFlag
  by_cases a : v = 0 <;> by_cases b : v = 1 <;> simp [a, b]
theorem flag_in (v : Int32) : ((0 : Int32) ≤ v ∧ v ≤ (1 : Int32)) ↔ (v = 0 ∨ v = 1) := by
  rw [Int32.le_iff_toInt_le, Int32.le_iff_toInt_le, ← Int32.toInt_inj, ← Int32.toInt_inj, i0T, i1T]
  omega
theorem e_maySetTo {N h : Nat} {σ : SG} {s : AS} (hC : RC σ s) {m : Nat} (hm4 : m < 40) (w v : Int32) : DX2_maySetTo N (h + (3 + 6 * m)) w v (HH h σ) = some (if ms s m w v then 1 else 0) := by
  simp only [DX2_maySetTo, DX2_maySetTo_168, Option.bind_some, bRT, bRW, bWW, bW, le0, ne10, if_true, if_false, not_true_eq_false, not_false_eq_true, uI_at, uA_1, uB_1, uG_1, uI_2, k1 hm4, g7 hm4, g8 hm4, g9 hm4, c_0 hC hm4, c_1 hC hm4, c_2 hC hm4, c_3 hC hm4, c_4 hC hm4, c_5 hC hm4, c_6 hC hm4, c_10 hC hm4, c_11 hC hm4, c_12 hC hm4, c_13 hC hm4, c_14 hC hm4, c_15 hC hm4, c_16 hC hm4, c_t0 hC hm4, c_t1 hC hm4, c_t2 hC hm4, c_t3 hC hm4, c_t4 hC hm4, c_t5 hC hm4, c_t6 hC hm4, c_t7 hC hm4, e_isFlag, ite01, e_cntL (hC.sg hm4)]
  by_cases w0 : w = 0
  · subst w0
    by_cases k : s.1 m 1 = 0 <;> by_cases f : v = 0 ∨ v = 1 <;> simp [ms, k, f]
  · rw [if_neg w0]
    by_cases w1 : w = 1
    · subst w1
      by_cases k : s.1 m 1 = 1 <;> by_cases a : v = 0 <;> by_cases b : v < nI (s.2.2.1 m 0).length <;> by_cases c : (30 : Int32) < v <;> simp [ms, k, a, b, c]
    · rw [if_neg w1]
      by_cases w2 : w = 2
      · subst w2
        by_cases k : s.1 m 1 = 3 <;> by_cases f : v = 0 ∨ v = 1 <;> simp [ms, k, f]
      · rw [if_neg w2]
        by_cases w3 : w = 3
        · subst w3
          by_cases k : s.1 m 1 = 5 <;> by_cases a : v < 0 <;> by_cases b : (3 : Int32) < v <;> simp [ms, k, a, b]
        · rw [if_neg w3]
          by_cases w4 : w = 4
          · subst w4
            by_cases k : s.1 m 1 = 5 <;> by_cases f : v = 0 ∨ v = 1 <;> simp [ms, k, f]
          · rw [if_neg w4]
            by_cases w5 : w = 5
            · subst w5
              by_cases k : s.1 m 1 = 0 <;> by_cases a : v < 0 <;> by_cases b : (100000 : Int32) < v <;> simp [ms, k, a, b]
            · rw [if_neg w5]
              by_cases w6 : w = 6
              · subst w6
                by_cases k : s.1 m 1 = 0 <;> by_cases a : v < 0 <;> by_cases b : (100000 : Int32) < v <;> simp [ms, k, a, b]
              · rw [if_neg w6]
                by_cases w7 : w = 7
                · subst w7
                  by_cases k : s.1 m 1 = 0 <;> by_cases a : v < 0 <;> by_cases b : (2 : Int32) < v <;> simp [ms, k, a, b]
                · simp [ms, w0, w1, w2, w3, w4, w5, w6, w7]
theorem f_maySet {N h : Nat} {σ : SG} {s : AS} (hM : RM σ s) (hn : s.2.2.2 ≤ 40) {m : Nat} (hm : m < s.2.2.2) (hk0 : ¬ s.1 m 1 = 0) (hl : (s.2.2.1 m 0).length ≤ 30) (w v : Int32) : DX10_maySet N (h + 275) (nI m) w v (HH h σ) = some (if ms s m w v then 1 else 0) := by
  simp only [DX10_maySet, DX10_maySet_178, r_ck, r_0, r_1, r_2, r_3, r_4, r_5, r_6, r_7, r_8, r_9, r_10, r_11, r_12, r_13, r_14, r_15, r_16, r_17, r_18, r_19, r_20, r_21, r_22, r_23, r_24, r_25, r_26, r_27, r_28, r_29, r_30, r_31, r_32, r_33, r_34, r_35, r_36, r_37, rp_0, rp_1, rp_26, rp_28, rp_30, rp_33, rp_35, rp_37, Option.bind_some, bRT, bRW, bWW, bW, le0, ne10, if_true, if_false, not_true_eq_false, not_false_eq_true, uI_at, uA_1, uB_1, uG_1, uI_2, m_kind hM hn hm, m_many hM hn hm, show (0 : Int64) = (0 : Int32).toInt64 from rfl, show (1 : Int64) = (1 : Int32).toInt64 from rfl, show (2 : Int64) = (2 : Int32).toInt64 from rfl, show (3 : Int64) = (3 : Int32).toInt64 from rfl, show (30 : Int64) = (30 : Int32).toInt64 from rfl, show (100000 : Int64) = (100000 : Int32).toInt64 from rfl, ii_eq, flag_in, ite01, ite0or2]
  by_cases w0 : w = 0
  · subst w0
    by_cases f : v = 0 ∨ v = 1 <;> simp [ms, hk0, f]
  · rw [if_neg w0]
    by_cases w1 : w = 1
    · subst w1
      have hx : ¬ v = 0 → (((1 : Int32) ≤ v ∧ v ≤ (30 : Int32)) ∧ ¬ v < nI (s.2.2.1 m 0).length ↔ ¬ v < nI (s.2.2.1 m 0).length ∧ ¬ (30 : Int32) < v) := fun hv => by
        rw [← Int32.toInt_inj, i0T] at hv
        rw [Int32.le_iff_toInt_le, Int32.le_iff_toInt_le, Int32.lt_iff_toInt_lt, Int32.lt_iff_toInt_lt, nIT (by omega), i1T]
        omega
      by_cases k : s.1 m 1 = 1
      · by_cases a : v = 0
        · simp [ms, k, a]
        · have hx := hx a
          by_cases p : (1 : Int32) ≤ v ∧ v ≤ (30 : Int32) <;> by_cases b : v < nI (s.2.2.1 m 0).length <;> by_cases c : (30 : Int32) < v <;> simp only [p, b, c, not_true_eq_false, not_false_eq_true, and_true, and_false, false_iff, true_iff, iff_true, iff_false] at hx <;> simp [ms, k, a, p, b, c]
      · simp [ms, k]
    · rw [if_neg w1]
      by_cases w2 : w = 2
      · subst w2
        by_cases k : s.1 m 1 = 3 <;> by_cases f : v = 0 ∨ v = 1 <;> simp [ms, k, f]
      · rw [if_neg w2]
        by_cases w3 : w = 3
        · subst w3
          by_cases k : s.1 m 1 = 5 <;> by_cases a : v < 0 <;> by_cases b : (3 : Int32) < v <;> simp [ms, k, a, b, Int32.not_lt, ← Int32.not_lt]
        · rw [if_neg w3]
          by_cases w4 : w = 4
          · subst w4
            by_cases k : s.1 m 1 = 5 <;> by_cases f : v = 0 ∨ v = 1 <;> simp [ms, k, f]
          · rw [if_neg w4]
            by_cases w5 : w = 5
            · subst w5
              by_cases a : v < 0 <;> by_cases b : (100000 : Int32) < v <;> simp [ms, hk0, a, b, ← Int32.not_lt]
            · rw [if_neg w5]
              by_cases w6 : w = 6
              · subst w6
                by_cases a : v < 0 <;> by_cases b : (100000 : Int32) < v <;> simp [ms, hk0, a, b, ← Int32.not_lt]
              · rw [if_neg w6]
                by_cases w7 : w = 7
                · subst w7
                  by_cases a : v < 0 <;> by_cases b : (2 : Int32) < v <;> simp [ms, hk0, a, b, ← Int32.not_lt]
                · simp [ms, w0, w1, w2, w3, w4, w5, w6, w7]
theorem ms_k {s : AS} {m : Nat} {w v : Int32} (h : ms s m w v) : ¬ s.1 m 1 = 0 := by
  rcases h with h | h | h | h | h | h | h
  · exact h.2.1
  · rw [h.2.1]; decide
  · rw [h.2.1]; decide
  · rw [h.2.1]; decide
  · rw [h.2.1]; decide
  · exact h.2.1
  · exact h.2.1
theorem rng {v : Int32} {n : Nat} (hn : n < 2 ^ 31) (h1 : ¬ v < 0) (h2 : ¬ nI n < v) : ∃ c, c ≤ n ∧ v = nI c := by
  obtain ⟨j, hj, e⟩ := nI_of h1
  refine ⟨j, ?_, e⟩
  rcases Nat.lt_or_ge n j with q | q
  · exact absurd (nI_lt q hj) (by rw [← e]; exact h2)
  · exact q
theorem op_set {N h : Nat} {σ : SG} {s : AS} (hS : St σ s) (x w v : Int32) : Out h σ s ex2 (DX9_set N h x w v (HH h σ)) (fun σ' => DX10_set N (h + 275) x w v (HH h σ')) := by
  have hS' := hS
  obtain ⟨hC, hM, hI⟩ := hS
  have hn := hI.n40
  rcases ixc x hn with hx | ⟨i, hi, rfl⟩
  · refine Out.thr ⟨hC, hM, hI⟩ 1 (by omega) 0 ?_ (fun σ' hM' => ?_)
    · simp only [DX9_set, o_ck, o_0, o_1, o_2, o_3, o_4, o_5, o_6, t_ck, t_0, v_ck, v_0, q_ck, q_0, q_1, q_2, q_3, q_4, wr_ck, wr_0, wr_1, wr_2, rd_ck, rd_0, rd_1, Option.bind_some, bRT, bRW, bWW, bW, le0, ne10, if_true, if_false, not_true_eq_false, not_false_eq_true, uI_at, uA_1, uB_1, uG_1, uI_2, e_tg0 hC hx]
      rfl
    · simp only [DX10_set, DX10_set_14, r_ck, r_0, r_1, r_2, r_3, r_4, r_5, r_6, r_7, r_8, r_9, r_10, r_11, r_12, r_13, r_14, r_15, r_16, r_17, r_18, r_19, r_20, r_21, r_22, r_23, r_24, r_25, r_26, r_27, r_28, r_29, r_30, r_31, r_32, r_33, r_34, r_35, r_36, r_37, rp_0, rp_1, rp_26, rp_28, rp_30, rp_33, rp_35, rp_37, Option.bind_some, bRT, bRW, bWW, bW, le0, ne10, if_true, if_false, not_true_eq_false, not_false_eq_true, uI_at, uA_1, uB_1, uG_1, uI_2, e_no0 hM' hx, le1]
      rfl
  · obtain ⟨m, hm, e, ek⟩ := hI.f hi
    have hm4 : m < 40 := by omega
    have hl := hC.len hm4
    have hlen : ∀ q, q < 40 → (s.2.2.1 q 0).length ≤ 30 ∧ (s.2.2.1 q 1).length ≤ 12 := fun q hq => hC.len hq
    by_cases hg : ms s m w v
    · have hk := ms_k hg
      have hc := e_maySetTo (N := N) (h := h) hC hm4 w v
      have hr : ∀ σ', RM σ' s → _ := fun σ' hM' => f_maySet (N := N) (h := h) hM' hn hm hk hl.1 w v
      simp only [if_pos hg] at hc hr
      have hV := hI.V hm
      rcases hg with ⟨rfl, g⟩ | ⟨rfl, g⟩ | ⟨rfl, g⟩ | ⟨rfl, g⟩ | ⟨rfl, g⟩ | ⟨rfl | rfl, g⟩ | ⟨rfl, g⟩
      · exact mst_set hS' hi hm e hk (w := 0) (by omega) v hc hr (hV.at1 (by omega)) (fun σ' hM' => hM'.set0 hlen hn hm)
      · refine mst_set hS' hi hm e hk (w := 1) (by omega) v hc hr ?_ (fun σ' hM' => hM'.set1 hlen hn hm)
        obtain ⟨a, b, d, e, f, g', i⟩ := hV
        refine ⟨fun q => absurd g.1 (by simpa [sA] using q), ?_, by simpa [sA] using d, by simpa [sA] using e, by simpa [sA] using f, by simpa [sA] using g', i⟩
        have : ∃ c, c ≤ 30 ∧ v = nI c := by
          rcases g.2 with q | q
          · exact ⟨0, by omega, q⟩
          · refine rng (by omega) (fun z => q.1 ?_) q.2
            rw [Int32.lt_iff_toInt_lt, i0T] at z
            rw [Int32.lt_iff_toInt_lt, nIT (by omega)]
            omega
        simpa [sA] using this
      · exact mst_set hS' hi hm e hk (w := 2) (by omega) v hc hr (hV.at1 (by omega)) (fun σ' hM' => hM'.set2 hlen hn hm)
      · refine mst_set hS' hi hm e hk (w := 3) (by omega) v hc hr ?_ (fun σ' hM' => hM'.set3 hlen hn hm)
        obtain ⟨a, b, d, e, f, g', i⟩ := hV
        have := rng (n := 3) (by omega) g.2.1 g.2.2
        exact ⟨by simpa [sA] using a, by simpa [sA] using b, by simpa [sA] using this, by simpa [sA] using e, by simpa [sA] using f, by simpa [sA] using g', i⟩
      · exact mst_set hS' hi hm e hk (w := 4) (by omega) v hc hr (hV.at1 (by omega)) (fun σ' hM' => hM'.set4 hlen hn hm)
      · exact own_set hS' hi hm e hk (w := 5) (by omega) v hc hr (fun q => absurd q (by omega))
      · exact own_set hS' hi hm e hk (w := 6) (by omega) v hc hr (fun q => absurd q (by omega))
      · exact own_set hS' hi hm e hk (w := 7) (by omega) v hc hr (fun _ => by
          obtain ⟨c, hc', e'⟩ := rng (n := 2) (by omega) g.2.1 g.2.2
          rcases (show c = 0 ∨ c = 1 ∨ c = 2 by omega) with z | z | z <;> rw [e', z]
          · exact Or.inl rfl
          · exact Or.inr (Or.inl rfl)
          · exact Or.inr (Or.inr rfl))
    · refine bad_set hS' hi hm e w v (by rw [e_maySetTo hC hm4, if_neg hg]) ?_
      by_cases hk : s.1 m 1 = 0
      · exact Or.inl hk
      · exact Or.inr (fun σ' hM' => by rw [f_maySet hM' hn hm hk hl.1, if_neg hg])
