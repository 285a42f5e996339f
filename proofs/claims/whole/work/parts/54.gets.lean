/-! failed, at, mark, page -/
theorem hasc (l : Nat) (hl : l ≤ 8000) (x : Int32) : (¬ (¬ x < 0 ∧ ¬ nI l ≤ x)) ∨ ∃ q, q < l ∧ x = nI q := by
  by_cases c : ¬ x < 0 ∧ ¬ nI l ≤ x
  · obtain ⟨j, hj, e⟩ := nI_of c.1
    refine Or.inr ⟨j, ?_, e⟩
    rcases Nat.lt_or_ge j l with q | q
    · exact q
    · exact absurd (nI_le q hj) (by rw [← e]; exact c.2)
  · exact Or.inl c
theorem op_failed {N h : Nat} {σ : SG} {s : AS} (hS : St σ s) (x : Int32) : Out h σ s exI ((DX9_failed N h x (HH h σ)).map fun r => (r, HH h σ)) (fun σ' => DX10_failed N (h + 275) x (HH h σ')) := by
  have hS' := hS
  obtain ⟨hC, hM, hI⟩ := hS
  have hF := hC.fai
  have hl := hF.le
  have hl4 : (s.2.2.1 40 0).length ≤ 40 := by rw [← hF.rc]; exact hF.1.2.2.2
  have l1 : (-1 : Int64) = (-1 : Int32).toInt64 := rfl
  by_cases c : x = -1
  · subst c
    refine Out.ans hS' (nI (s.2.2.1 40 0).length) ?_ (fun σ' hM' => ?_)
    · simp only [DX9_failed, o_ck, o_0, o_1, o_2, o_3, o_4, o_5, o_6, t_ck, t_0, v_ck, v_0, q_ck, q_0, q_1, q_2, q_3, q_4, wr_ck, wr_0, wr_1, wr_2, rd_ck, rd_0, rd_1, Option.bind_some, bRT, bRW, bWW, bW, le0, ne10, if_true, if_false, not_true_eq_false, not_false_eq_true, uI_at, uA_1, uB_1, uG_1, uI_2, e_cntL hF, Option.map_some]
    · have : ((-1 : Int32) ≤ -1 ∧ ¬ nI (s.2.2.1 40 0).length ≤ -1) = True := eq_true ⟨by decide, fun q => by
        rw [Int32.le_iff_toInt_le, nIT (by omega), im1T] at q
        omega⟩
      simp only [DX10_failed, DX10_failed_24, r_ck, r_0, r_1, r_2, r_3, r_4, r_5, r_6, r_7, r_8, r_9, r_10, r_11, r_12, r_13, r_14, r_15, r_16, r_17, r_18, r_19, r_20, r_21, r_22, r_23, r_24, r_25, r_26, r_27, r_28, r_29, r_30, r_31, r_32, r_33, r_34, r_35, r_36, r_37, rp_0, rp_1, rp_26, rp_28, rp_30, rp_33, rp_35, rp_37, Option.bind_some, bRT, bRW, bWW, bW, le0, ne10, if_true, if_false, not_true_eq_false, not_false_eq_true, uI_at, uA_1, uB_1, uG_1, uI_2, hM'.fai.1, l1, ii_len _ _ hl, this, uI_ne σ' 275 0 (0 : Int32) (k' := 275) (j' := 26) (by omega)]
  · rcases hasc _ hl x with hx | ⟨q, hq, rfl⟩
    · refine Out.thr hS' 1 (by omega) 0 ?_ (fun σ' hM' => ?_)
      · simp only [DX9_failed, o_ck, o_0, o_1, o_2, o_3, o_4, o_5, o_6, t_ck, t_0, v_ck, v_0, q_ck, q_0, q_1, q_2, q_3, q_4, wr_ck, wr_0, wr_1, wr_2, rd_ck, rd_0, rd_1, Option.bind_some, bRT, bRW, bWW, bW, le0, ne10, if_true, if_false, not_true_eq_false, not_false_eq_true, uI_at, uA_1, uB_1, uG_1, uI_2, c, e_hasL hF, hx, Option.map_some]
        rfl
      · have : ((-1 : Int32) ≤ x ∧ ¬ nI (s.2.2.1 40 0).length ≤ x) = False := eq_false (fun z => hx ⟨fun y => c (by
            have z1 := z.1
            rw [Int32.le_iff_toInt_le, im1T] at z1
            rw [Int32.lt_iff_toInt_lt, i0T] at y
            exact Int32.toInt_inj.mp (by rw [im1T]; omega)), z.2⟩)
        simp only [DX10_failed, DX10_failed_24, r_ck, r_0, r_1, r_2, r_3, r_4, r_5, r_6, r_7, r_8, r_9, r_10, r_11, r_12, r_13, r_14, r_15, r_16, r_17, r_18, r_19, r_20, r_21, r_22, r_23, r_24, r_25, r_26, r_27, r_28, r_29, r_30, r_31, r_32, r_33, r_34, r_35, r_36, r_37, rp_0, rp_1, rp_26, rp_28, rp_30, rp_33, rp_35, rp_37, Option.bind_some, bRT, bRW, bWW, bW, le0, ne10, if_true, if_false, not_true_eq_false, not_false_eq_true, uI_at, uA_1, uB_1, uG_1, uI_2, hM'.fai.1, l1, ii_len _ _ hl, this, le1]
        rfl
    · have hh : (¬ nI q < 0 ∧ ¬ nI (s.2.2.1 40 0).length ≤ nI q) = True := eq_true ⟨nI_pos (by omega), nI_ge hq (by omega)⟩
      refine Out.ans hS' ((s.2.2.1 40 0).getD q 0) ?_ (fun σ' hM' => ?_)
      · simp only [DX9_failed, o_ck, o_0, o_1, o_2, o_3, o_4, o_5, o_6, t_ck, t_0, v_ck, v_0, q_ck, q_0, q_1, q_2, q_3, q_4, wr_ck, wr_0, wr_1, wr_2, rd_ck, rd_0, rd_1, Option.bind_some, bRT, bRW, bWW, bW, le0, ne10, if_true, if_false, not_true_eq_false, not_false_eq_true, uI_at, uA_1, uB_1, uG_1, uI_2, c, e_hasL hF, hh, e_getL hF hq, Option.map_some]
      · have : ((-1 : Int32) ≤ nI q ∧ ¬ nI (s.2.2.1 40 0).length ≤ nI q) = True := eq_true ⟨by rw [Int32.le_iff_toInt_le, nIT (by omega), im1T]; omega, nI_ge hq (by omega)⟩
        simp only [DX10_failed, DX10_failed_24, r_ck, r_0, r_1, r_2, r_3, r_4, r_5, r_6, r_7, r_8, r_9, r_10, r_11, r_12, r_13, r_14, r_15, r_16, r_17, r_18, r_19, r_20, r_21, r_22, r_23, r_24, r_25, r_26, r_27, r_28, r_29, r_30, r_31, r_32, r_33, r_34, r_35, r_36, r_37, rp_0, rp_1, rp_26, rp_28, rp_30, rp_33, rp_35, rp_37, Option.bind_some, bRT, bRW, bWW, bW, le0, ne10, if_true, if_false, not_true_eq_false, not_false_eq_true, uI_at, uA_1, uB_1, uG_1, uI_2, hM'.fai.1, l1, ii_len _ _ hl, this, c, aN0 (k := 299) rfl (show q < ln 299 from show q < 40 by omega), hM'.fai.2 q hq]
theorem op_at {N h : Nat} {σ : SG} {s : AS} (hS : St σ s) (x : Int32) : Out h σ s exA ((DX9_at N h x (HH h σ)).map fun r => (r, HH h σ)) (fun σ' => DX10_at N (h + 275) x (HH h σ')) := by
  have hS' := hS
  obtain ⟨hC, hM, hI⟩ := hS
  have hF := hC.dat
  have hl := hF.le
  have l1 : (0 : Int64) = (0 : Int32).toInt64 := rfl
  rcases hasc _ hl x with hx | ⟨q, hq, rfl⟩
  · refine Out.thr hS' 1 (by omega) 0 ?_ (fun σ' hM' => ?_)
    · simp only [DX9_at, o_ck, o_0, o_1, o_2, o_3, o_4, o_5, o_6, t_ck, t_0, v_ck, v_0, q_ck, q_0, q_1, q_2, q_3, q_4, wr_ck, wr_0, wr_1, wr_2, rd_ck, rd_0, rd_1, Option.bind_some, bRT, bRW, bWW, bW, le0, ne10, if_true, if_false, not_true_eq_false, not_false_eq_true, uI_at, uA_1, uB_1, uG_1, uI_2, e_hasL hF, hx, Option.map_some]
      rfl
    · have : ((0 : Int32) ≤ x ∧ ¬ nI (s.2.2.1 40 1).length ≤ x) = False := eq_false (fun z => hx ⟨Int32.not_lt.mpr z.1, z.2⟩)
      simp only [DX10_at, DX10_at_22, r_ck, r_0, r_1, r_2, r_3, r_4, r_5, r_6, r_7, r_8, r_9, r_10, r_11, r_12, r_13, r_14, r_15, r_16, r_17, r_18, r_19, r_20, r_21, r_22, r_23, r_24, r_25, r_26, r_27, r_28, r_29, r_30, r_31, r_32, r_33, r_34, r_35, r_36, r_37, rp_0, rp_1, rp_26, rp_28, rp_30, rp_33, rp_35, rp_37, Option.bind_some, bRT, bRW, bWW, bW, le0, ne10, if_true, if_false, not_true_eq_false, not_false_eq_true, uI_at, uA_1, uB_1, uG_1, uI_2, hM'.dat.1, l1, ii_len _ _ hl, this, le1]
      rfl
  · have hh : (¬ nI q < 0 ∧ ¬ nI (s.2.2.1 40 1).length ≤ nI q) = True := eq_true ⟨nI_pos (by omega), nI_ge hq (by omega)⟩
    refine Out.ans hS' ((s.2.2.1 40 1).getD q 0) ?_ (fun σ' hM' => ?_)
    · simp only [DX9_at, o_ck, o_0, o_1, o_2, o_3, o_4, o_5, o_6, t_ck, t_0, v_ck, v_0, q_ck, q_0, q_1, q_2, q_3, q_4, wr_ck, wr_0, wr_1, wr_2, rd_ck, rd_0, rd_1, Option.bind_some, bRT, bRW, bWW, bW, le0, ne10, if_true, if_false, not_true_eq_false, not_false_eq_true, uI_at, uA_1, uB_1, uG_1, uI_2, e_hasL hF, hh, e_getL hF hq, Option.map_some]
    · have : ((0 : Int32) ≤ nI q ∧ ¬ nI (s.2.2.1 40 1).length ≤ nI q) = True := eq_true ⟨nI_pos' (by omega), nI_ge hq (by omega)⟩
      simp only [DX10_at, DX10_at_22, r_ck, r_0, r_1, r_2, r_3, r_4, r_5, r_6, r_7, r_8, r_9, r_10, r_11, r_12, r_13, r_14, r_15, r_16, r_17, r_18, r_19, r_20, r_21, r_22, r_23, r_24, r_25, r_26, r_27, r_28, r_29, r_30, r_31, r_32, r_33, r_34, r_35, r_36, r_37, rp_0, rp_1, rp_26, rp_28, rp_30, rp_33, rp_35, rp_37, Option.bind_some, bRT, bRW, bWW, bW, le0, ne10, if_true, if_false, not_true_eq_false, not_false_eq_true, uI_at, uA_1, uB_1, uG_1, uI_2, hM'.dat.1, l1, ii_len _ _ hl, this, aN0 (k := 304) rfl (show q < ln 304 from show q < 8000 by omega), hM'.dat.2 q hq]
theorem e_mkhas {N h : Nat} {σ : SG} {s : AS} {k m i : Nat} (hk : kd k = 2) (hK : RK σ s k m i) (x w : Int32) : DX3_has N (h + k) x w (HH h σ) = some (if (¬ x < 0 ∧ ¬ nI (s.2.2.1 i 0).length ≤ x) ∧ ¬ w < 0 ∧ ¬ (5 : Int32) ≤ w then 1 else 0) := by
  simp only [DX3_has, ck_2 hk, g_2_2 hk, hK.2.1, Option.bind_some, bRT, bRW, bWW, bW, le0, ne10, if_true, if_false, not_true_eq_false, not_false_eq_true, uI_at, uA_1, uB_1, uG_1, uI_2]
  by_cases a : x < 0 <;> by_cases b : nI (s.2.2.1 i 0).length ≤ x <;> by_cases c : w < 0 <;> by_cases d : (5 : Int32) ≤ w <;> simp [a, b, c, d]
theorem e_mkget {N h : Nat} {σ : SG} {s : AS} {k m i : Nat} (hk : kd k = 2) (hk1 : kd (k + 1) = 14) (hl5 : ln (k + 1) = 5) (hka : ∀ w, w < 5 → kd (k + 1 + 1 + w) = 10 ∧ ln (k + 1 + 1 + w) = m) (hm : m ≤ 400) (hK : RK σ s k m i) {q w : Nat} (hq : q < (s.2.2.1 i 0).length) (hw : w < 5) : DX3_get N (h + k) (nI q) (nI w) (HH h σ) = some ((s.2.2.1 i w).getD q 0) := by
  have h3 := hK.2.2.1
  have : ((¬ nI q < 0 ∧ ¬ nI (s.2.2.1 i 0).length ≤ nI q) ∧ ¬ nI w < 0 ∧ ¬ (5 : Int32) ≤ nI w) = True := eq_true ⟨⟨nI_pos (by omega), nI_ge hq (by omega)⟩, nI_pos (by omega), nI_ge (b := 5) hw (by omega)⟩
  have h4 : (¬ nI w < 0 ∧ w < 5) = True := eq_true ⟨nI_pos (by omega), hw⟩
  simp only [DX3_get, ck_2 hk, e_mkhas hk hK, this, Option.bind_some, bRT, bRW, bWW, bW, le0, ne10, if_true, if_false, not_true_eq_false, not_false_eq_true, uI_at, uA_1, uB_1, uG_1, uI_2, g_2_0 hk, a_4 hk1 hl5, nI_clamp (show w < 2 ^ 31 by omega), h4, aN0 (hka w hw).1 (show q < ln (k + 1 + 1 + w) by rw [(hka w hw).2]; omega), (hK.2.2.2 w hw).2 q hq]
theorem mk261 : ∀ w, w < 5 → kd (261 + 1 + 1 + w) = 10 ∧ ln (261 + 1 + 1 + w) = 31 := by decide
theorem mk268 : ∀ w, w < 5 → kd (268 + 1 + 1 + w) = 10 ∧ ln (268 + 1 + 1 + w) = 400 := by decide
theorem n4 (i : Nat) : (4 : Int32) * nI i = nI (4 * i) := (Int32.ofNat_mul 4 i).symm
theorem op_mark {N h : Nat} {σ : SG} {s : AS} (hS : St σ s) (x w : Int32) : Out h σ s exI ((DX9_mark N h x w (HH h σ)).map fun r => (r, HH h σ)) (fun σ' => DX10_mark_ N (h + 275) x w (HH h σ')) := by
  have hS' := hS
  obtain ⟨hC, hM, hI⟩ := hS
  have hF := hC.made
  have hl : (s.2.2.1 41 0).length ≤ 31 := hF.2.2.1
  have l0 : (0 : Int64) = (0 : Int32).toInt64 := rfl
  have l3 : (3 : Int64) = (3 : Int32).toInt64 := rfl
  rcases hasc _ (show (s.2.2.1 41 0).length ≤ 8000 by omega) x with hx | ⟨q, hq, rfl⟩
  · refine Out.thr hS' 1 (by omega) 0 ?_ (fun σ' hM' => ?_)
    · simp only [DX9_mark, o_ck, o_0, o_1, o_2, o_3, o_4, o_5, o_6, t_ck, t_0, v_ck, v_0, q_ck, q_0, q_1, q_2, q_3, q_4, wr_ck, wr_0, wr_1, wr_2, rd_ck, rd_0, rd_1, Option.bind_some, bRT, bRW, bWW, bW, le0, ne10, if_true, if_false, not_true_eq_false, not_false_eq_true, uI_at, uA_1, uB_1, uG_1, uI_2, e_mkhas (k := 261) rfl hF, hx, false_and, Option.map_some]
      rfl
    · have : ((0 : Int32) ≤ x ∧ ¬ nI (s.2.2.1 41 0).length ≤ x) = False := eq_false (fun z => hx ⟨Int32.not_lt.mpr z.1, z.2⟩)
      simp only [DX10_mark_, DX10_mark__33, DX10_mark__34, r_ck, r_0, r_1, r_2, r_3, r_4, r_5, r_6, r_7, r_8, r_9, r_10, r_11, r_12, r_13, r_14, r_15, r_16, r_17, r_18, r_19, r_20, r_21, r_22, r_23, r_24, r_25, r_26, r_27, r_28, r_29, r_30, r_31, r_32, r_33, r_34, r_35, r_36, r_37, rp_0, rp_1, rp_26, rp_28, rp_30, rp_33, rp_35, rp_37, Option.bind_some, bRT, bRW, bWW, bW, le0, ne10, if_true, if_false, not_true_eq_false, not_false_eq_true, uI_at, uA_1, uB_1, uG_1, uI_2, hM'.made.1, l0, ii_len _ _ (show (s.2.2.1 41 0).length ≤ 8000 by omega), this, le1]
      rfl
  · have hh : (¬ nI q < 0 ∧ ¬ nI (s.2.2.1 41 0).length ≤ nI q) = True := eq_true ⟨nI_pos (by omega), nI_ge hq (by omega)⟩
    have h0 : ((0 : Int32) ≤ nI q ∧ ¬ nI (s.2.2.1 41 0).length ≤ nI q) = True := eq_true ⟨nI_pos' (by omega), nI_ge hq (by omega)⟩
    rcases hasc 4 (by omega) w with hw | ⟨v, hv, rfl⟩
    · refine Out.thr hS' 1 (by omega) 0 ?_ (fun σ' hM' => ?_)
      · simp only [DX9_mark, o_ck, o_0, o_1, o_2, o_3, o_4, o_5, o_6, t_ck, t_0, v_ck, v_0, q_ck, q_0, q_1, q_2, q_3, q_4, wr_ck, wr_0, wr_1, wr_2, rd_ck, rd_0, rd_1, Option.bind_some, bRT, bRW, bWW, bW, le0, ne10, if_true, if_false, not_true_eq_false, not_false_eq_true, uI_at, uA_1, uB_1, uG_1, uI_2, e_mkhas (k := 261) rfl hF, hh, true_and, Option.map_some]
        by_cases a : ¬ w < 0 ∧ ¬ (5 : Int32) ≤ w
        · have a4 : w = 4 := by
            refine Int32.toInt_inj.mp ?_
            have a1 := a.1
            have a2 := a.2
            rw [Int32.lt_iff_toInt_lt, i0T] at a1
            rw [Int32.le_iff_toInt_le, show (5 : Int32).toInt = 5 from rfl] at a2
            have a3 : ¬ w.toInt < 4 := fun z => hw ⟨a.1, fun y => by
              rw [Int32.le_iff_toInt_le, nIT (by omega)] at y
              omega⟩
            rw [show (4 : Int32).toInt = 4 from rfl]
            omega
          rw [a4]
          rfl
        · rw [if_neg a]
          rfl
      · have : ((0 : Int32) ≤ w ∧ w ≤ (3 : Int32)) = False := eq_false (fun z => hw ⟨Int32.not_lt.mpr z.1, fun y => by
          have z2 := z.2
          rw [Int32.le_iff_toInt_le, nIT (by omega)] at y
          rw [Int32.le_iff_toInt_le, show (3 : Int32).toInt = 3 from rfl] at z2
          omega⟩)
        simp only [DX10_mark_, DX10_mark__33, DX10_mark__34, r_ck, r_0, r_1, r_2, r_3, r_4, r_5, r_6, r_7, r_8, r_9, r_10, r_11, r_12, r_13, r_14, r_15, r_16, r_17, r_18, r_19, r_20, r_21, r_22, r_23, r_24, r_25, r_26, r_27, r_28, r_29, r_30, r_31, r_32, r_33, r_34, r_35, r_36, r_37, rp_0, rp_1, rp_26, rp_28, rp_30, rp_33, rp_35, rp_37, Option.bind_some, bRT, bRW, bWW, bW, le0, ne10, if_true, if_false, not_true_eq_false, not_false_eq_true, uI_at, uA_1, uB_1, uG_1, uI_2, hM'.made.1, l0, l3, ii_len _ _ (show (s.2.2.1 41 0).length ≤ 8000 by omega), h0, ii_eq, this, le1]
        rfl
    · refine Out.ans hS' ((s.2.2.1 41 v).getD q 0) ?_ (fun σ' hM' => ?_)
      · have h5 : (¬ nI v < 0 ∧ ¬ (5 : Int32) ≤ nI v) = True := eq_true ⟨nI_pos (by omega), nI_ge (b := 5) (by omega) (by omega)⟩
        have h4 : ¬ nI v = (4 : Int32) := fun z => by have := (nI_eq (b := 4) (by omega) (by omega)).mp z; omega
        simp only [DX9_mark, o_ck, o_0, o_1, o_2, o_3, o_4, o_5, o_6, t_ck, t_0, v_ck, v_0, q_ck, q_0, q_1, q_2, q_3, q_4, wr_ck, wr_0, wr_1, wr_2, rd_ck, rd_0, rd_1, Option.bind_some, bRT, bRW, bWW, bW, le0, ne10, if_true, if_false, not_true_eq_false, not_false_eq_true, uI_at, uA_1, uB_1, uG_1, uI_2, e_mkhas (k := 261) rfl hF, hh, h5, true_and, h4, e_mkget (k := 261) rfl rfl rfl mk261 (by omega) hF hq (show v < 5 by omega), Option.map_some]
      · have : ((0 : Int32) ≤ nI v ∧ nI v ≤ (3 : Int32)) = True := eq_true ⟨nI_pos' (by omega), nI_le (b := 3) (by omega) (by omega)⟩
        simp only [DX10_mark_, DX10_mark__33, DX10_mark__34, r_ck, r_0, r_1, r_2, r_3, r_4, r_5, r_6, r_7, r_8, r_9, r_10, r_11, r_12, r_13, r_14, r_15, r_16, r_17, r_18, r_19, r_20, r_21, r_22, r_23, r_24, r_25, r_26, r_27, r_28, r_29, r_30, r_31, r_32, r_33, r_34, r_35, r_36, r_37, rp_0, rp_1, rp_26, rp_28, rp_30, rp_33, rp_35, rp_37, Option.bind_some, bRT, bRW, bWW, bW, le0, ne10, if_true, if_false, not_true_eq_false, not_false_eq_true, uI_at, uA_1, uB_1, uG_1, uI_2, hM'.made.1, l0, l3, ii_len _ _ (show (s.2.2.1 41 0).length ≤ 8000 by omega), h0, ii_eq, this, n4, nI_add, aN0 (k := 301) rfl (show 4 * q + v < ln 301 from show 4 * q + v < 160 by omega), hM'.made.2 v hv q hq]
theorem op_page {N h : Nat} {σ : SG} {s : AS} (hS : St σ s) (x w : Int32) : Out h σ s exI ((DX9_page N h x w (HH h σ)).map fun r => (r, HH h σ)) (fun σ' => DX10_page N (h + 275) x w (HH h σ')) := by
  have hS' := hS
  obtain ⟨hC, hM, hI⟩ := hS
  have hF := hC.kept
  have hl : (s.2.2.1 42 0).length ≤ 400 := hF.2.2.1
  have l0 : (0 : Int64) = (0 : Int32).toInt64 := rfl
  have l3 : (4 : Int64) = (4 : Int32).toInt64 := rfl
  rcases hasc _ (show (s.2.2.1 42 0).length ≤ 8000 by omega) x with hx | ⟨q, hq, rfl⟩
  · refine Out.thr hS' 1 (by omega) 0 ?_ (fun σ' hM' => ?_)
    · simp only [DX9_page, o_ck, o_0, o_1, o_2, o_3, o_4, o_5, o_6, t_ck, t_0, v_ck, v_0, q_ck, q_0, q_1, q_2, q_3, q_4, wr_ck, wr_0, wr_1, wr_2, rd_ck, rd_0, rd_1, Option.bind_some, bRT, bRW, bWW, bW, le0, ne10, if_true, if_false, not_true_eq_false, not_false_eq_true, uI_at, uA_1, uB_1, uG_1, uI_2, e_mkhas (k := 268) rfl hF, hx, false_and, Option.map_some]
      rfl
    · have : ((0 : Int32) ≤ x ∧ ¬ nI (s.2.2.1 42 0).length ≤ x) = False := eq_false (fun z => hx ⟨Int32.not_lt.mpr z.1, z.2⟩)
      simp only [DX10_page, DX10_page_33, DX10_page_34, r_ck, r_0, r_1, r_2, r_3, r_4, r_5, r_6, r_7, r_8, r_9, r_10, r_11, r_12, r_13, r_14, r_15, r_16, r_17, r_18, r_19, r_20, r_21, r_22, r_23, r_24, r_25, r_26, r_27, r_28, r_29, r_30, r_31, r_32, r_33, r_34, r_35, r_36, r_37, rp_0, rp_1, rp_26, rp_28, rp_30, rp_33, rp_35, rp_37, Option.bind_some, bRT, bRW, bWW, bW, le0, ne10, if_true, if_false, not_true_eq_false, not_false_eq_true, uI_at, uA_1, uB_1, uG_1, uI_2, hM'.kept.1, l0, ii_len _ _ (show (s.2.2.1 42 0).length ≤ 8000 by omega), this, le1]
      rfl
  · have hh : (¬ nI q < 0 ∧ ¬ nI (s.2.2.1 42 0).length ≤ nI q) = True := eq_true ⟨nI_pos (by omega), nI_ge hq (by omega)⟩
    have h0 : ((0 : Int32) ≤ nI q ∧ ¬ nI (s.2.2.1 42 0).length ≤ nI q) = True := eq_true ⟨nI_pos' (by omega), nI_ge hq (by omega)⟩
    rcases hasc 5 (by omega) w with hw | ⟨v, hv, rfl⟩
    · refine Out.thr hS' 1 (by omega) 0 ?_ (fun σ' hM' => ?_)
      · have : (¬ w < 0 ∧ ¬ (5 : Int32) ≤ w) = False := eq_false hw
        simp only [DX9_page, o_ck, o_0, o_1, o_2, o_3, o_4, o_5, o_6, t_ck, t_0, v_ck, v_0, q_ck, q_0, q_1, q_2, q_3, q_4, wr_ck, wr_0, wr_1, wr_2, rd_ck, rd_0, rd_1, Option.bind_some, bRT, bRW, bWW, bW, le0, ne10, if_true, if_false, not_true_eq_false, not_false_eq_true, uI_at, uA_1, uB_1, uG_1, uI_2, e_mkhas (k := 268) rfl hF, hh, this, and_false, Option.map_some]
        rfl
      · have : ((0 : Int32) ≤ w ∧ w ≤ (4 : Int32)) = False := eq_false (fun z => hw ⟨Int32.not_lt.mpr z.1, fun y => by
          have z2 := z.2
          rw [Int32.le_iff_toInt_le, nIT (by omega)] at y
          rw [Int32.le_iff_toInt_le, show (4 : Int32).toInt = 4 from rfl] at z2
          omega⟩)
        simp only [DX10_page, DX10_page_33, DX10_page_34, r_ck, r_0, r_1, r_2, r_3, r_4, r_5, r_6, r_7, r_8, r_9, r_10, r_11, r_12, r_13, r_14, r_15, r_16, r_17, r_18, r_19, r_20, r_21, r_22, r_23, r_24, r_25, r_26, r_27, r_28, r_29, r_30, r_31, r_32, r_33, r_34, r_35, r_36, r_37, rp_0, rp_1, rp_26, rp_28, rp_30, rp_33, rp_35, rp_37, Option.bind_some, bRT, bRW, bWW, bW, le0, ne10, if_true, if_false, not_true_eq_false, not_false_eq_true, uI_at, uA_1, uB_1, uG_1, uI_2, hM'.kept.1, l0, l3, ii_len _ _ (show (s.2.2.1 42 0).length ≤ 8000 by omega), h0, ii_eq, this, le1]
        rfl
    · refine Out.ans hS' ((s.2.2.1 42 v).getD q 0) ?_ (fun σ' hM' => ?_)
      · have h5 : (¬ nI v < 0 ∧ ¬ (5 : Int32) ≤ nI v) = True := eq_true ⟨nI_pos (by omega), nI_ge (b := 5) (by omega) (by omega)⟩
        simp only [DX9_page, o_ck, o_0, o_1, o_2, o_3, o_4, o_5, o_6, t_ck, t_0, v_ck, v_0, q_ck, q_0, q_1, q_2, q_3, q_4, wr_ck, wr_0, wr_1, wr_2, rd_ck, rd_0, rd_1, Option.bind_some, bRT, bRW, bWW, bW, le0, ne10, if_true, if_false, not_true_eq_false, not_false_eq_true, uI_at, uA_1, uB_1, uG_1, uI_2, e_mkhas (k := 268) rfl hF, hh, h5, true_and, e_mkget (k := 268) rfl rfl rfl mk268 (by omega) hF hq (show v < 5 by omega), Option.map_some]
      · have : ((0 : Int32) ≤ nI v ∧ nI v ≤ (4 : Int32)) = True := eq_true ⟨nI_pos' (by omega), nI_le (b := 4) (by omega) (by omega)⟩
        simp only [DX10_page, DX10_page_33, DX10_page_34, r_ck, r_0, r_1, r_2, r_3, r_4, r_5, r_6, r_7, r_8, r_9, r_10, r_11, r_12, r_13, r_14, r_15, r_16, r_17, r_18, r_19, r_20, r_21, r_22, r_23, r_24, r_25, r_26, r_27, r_28, r_29, r_30, r_31, r_32, r_33, r_34, r_35, r_36, r_37, rp_0, rp_1, rp_26, rp_28, rp_30, rp_33, rp_35, rp_37, Option.bind_some, bRT, bRW, bWW, bW, le0, ne10, if_true, if_false, not_true_eq_false, not_false_eq_true, uI_at, uA_1, uB_1, uG_1, uI_2, hM'.kept.1, l0, l3, ii_len _ _ (show (s.2.2.1 42 0).length ≤ 8000 by omega), h0, ii_eq, this, n5, nI_add, aN0 (k := 303) rfl (show 5 * q + v < ln 303 from show 5 * q + v < 2000 by omega), hM'.kept.2 v hv q hq]
