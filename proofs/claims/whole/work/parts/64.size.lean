/-! THE SIZE THAT FITS -/
abbrev fit (w g : Int32) (n k : Nat) : Prop := ¬ w < nI (n * (k / 2)) ∧ ¬ g < nI (k + k / 4)
def szf (w g : Int32) (n : Nat) : Int32 := if fit w g n 96 then 96 else if fit w g n 48 then 48 else if fit w g n 24 then 24 else if fit w g n 12 then 12 else if fit w g n 6 then 6 else -6
def szk (s : AS) (m : Nat) : Nat := if s.1 m 21 ≤ 0 then (showL s m).length else (s.1 m 21).toNatClampNeg
def sz (s : AS) (i m : Nat) : Int32 := szf (s.1 i 25) (s.1 i 26) (szk s m)
theorem nI_mul (a b : Nat) : nI a * nI b = nI (a * b) := (Int32.ofNat_mul a b).symm
theorem e_szs {N h : Nat} {σ : SG} {s : AS} (hC : RC σ s) {i : Nat} (hi4 : i < 40) (n w k : Nat) (hk : 6 ≤ k ∧ k ≤ 96) : DX7_sizeFor_3 N (HH h σ) (w + 1) (h + (3 + 6 * i)) (nI n) (nI k) = if fit (s.1 i 25) (s.1 i 26) n k then some (nI k) else DX7_sizeFor_3 N (HH h σ) w (h + (3 + 6 * i)) (nI n) (nI (k / 2)) := by
  have e2 : nI k / (2 : Int32) = nI (k / 2) := pk_div (d := 2) (by omega) (by omega) (by omega)
  have e4 : nI k / (4 : Int32) = nI (k / 4) := pk_div (d := 4) (by omega) (by omega) (by omega)
  simp only [DX7_sizeFor_3, DX7_sizeFor_28, DX7_sizeFor_50, Option.bind_some, bRT, bRW, bWW, bW, le0, ne10, if_true, if_false, not_true_eq_false, not_false_eq_true, uI_at, uA_1, uB_1, uG_1, uI_2, g7 hi4, c_t5 hC hi4, c_t6 hC hi4, e2, e4, nI_mul, nI_add]
  rw [if_neg (show ¬ nI k < (6 : Int32) from nI_nlt (b := 6) (by omega) (by omega))]
  by_cases a : s.1 i 25 < nI (n * (k / 2))
  · rw [if_pos a, if_neg (fun z => z.1 a)]
  · rw [if_neg a]
    by_cases b : s.1 i 26 < nI (k + k / 4)
    · rw [if_pos b, if_neg (fun z => z.2 b)]
    · rw [if_neg b, if_pos ⟨a, b⟩]
theorem e_sz {N h : Nat} (hN : 10000 ≤ N) {σ : SG} {s : AS} (hC : RC σ s) {i : Nat} (hi4 : i < 40) (n : Nat) : DX7_sizeFor N (h + (3 + 6 * i)) (nI n) (HH h σ) = some (szf (s.1 i 25) (s.1 i 26) n) := by
  obtain ⟨w, rfl⟩ : ∃ w, N = w + 6 := ⟨N - 6, by omega⟩
  unfold DX7_sizeFor szf
  have h0 : DX7_sizeFor_3 (w + 6) (HH h σ) (w + 1) (h + (3 + 6 * i)) (nI n) (nI 3) = some (-6) := by
    rw [DX7_sizeFor_3, if_pos (by decide)]
  have h1 := e_szs (N := w + 6) (h := h) hC hi4 n (w + 5) 96 (by omega)
  have h2 := e_szs (N := w + 6) (h := h) hC hi4 n (w + 4) 48 (by omega)
  have h3 := e_szs (N := w + 6) (h := h) hC hi4 n (w + 3) 24 (by omega)
  have h4 := e_szs (N := w + 6) (h := h) hC hi4 n (w + 2) 12 (by omega)
  have h5 := e_szs (N := w + 6) (h := h) hC hi4 n (w + 1) 6 (by omega)
  rw [show (96 : Int32) = nI 96 from rfl, h1]
  by_cases c1 : fit (s.1 i 25) (s.1 i 26) n 96
  · rw [if_pos c1, if_pos c1]
  · rw [if_neg c1, if_neg c1, show 96 / 2 = 48 from rfl, h2]
    by_cases c2 : fit (s.1 i 25) (s.1 i 26) n 48
    · rw [if_pos c2, if_pos c2]; rfl
    · rw [if_neg c2, if_neg c2, show 48 / 2 = 24 from rfl, h3]
      by_cases c3 : fit (s.1 i 25) (s.1 i 26) n 24
      · rw [if_pos c3, if_pos c3]; rfl
      · rw [if_neg c3, if_neg c3, show 24 / 2 = 12 from rfl, h4]
        by_cases c4 : fit (s.1 i 25) (s.1 i 26) n 12
        · rw [if_pos c4, if_pos c4]; rfl
        · rw [if_neg c4, if_neg c4, show 12 / 2 = 6 from rfl, h5]
          by_cases c5 : fit (s.1 i 25) (s.1 i 26) n 6
          · rw [if_pos c5, if_pos c5]; rfl
          · rw [if_neg c5, if_neg c5]
            exact h0
theorem f_szs {N h : Nat} {σ : SG} {s : AS} (hM : RM σ s) (hn : s.2.2.2 ≤ 40) {i : Nat} (hi : i < s.2.2.2) (n w k : Nat) (hn3 : n ≤ 30) (hk : 6 ≤ k ∧ k ≤ 96) : DX10_sizeOf_39 N (w + 1) (h + 275) (nI i) (lN n) (nI k) (HH h σ) = if fit (s.1 i 25) (s.1 i 26) n k then some (nI k, HH h σ) else DX10_sizeOf_39 N w (h + 275) (nI i) (lN n) (nI (k / 2)) (HH h σ) := by
  have e2 : nI k / (2 : Int32) = nI (k / 2) := pk_div (d := 2) (by omega) (by omega) (by omega)
  have e4 : nI k / (4 : Int32) = nI (k / 4) := pk_div (d := 4) (by omega) (by omega) (by omega)
  have hb : n * (k / 2) < 2 ^ 31 := by
    have : n * (k / 2) ≤ 30 * 48 := Nat.mul_le_mul hn3 (by omega)
    omega
  simp only [DX10_sizeOf_39, DX10_sizeOf_82, r_ck, r_0, r_1, r_2, r_3, r_4, r_5, r_6, r_7, r_8, r_9, r_10, r_11, r_12, r_13, r_14, r_15, r_16, r_17, r_18, r_19, r_20, r_21, r_22, r_23, r_24, r_25, r_26, r_27, r_28, r_29, r_30, r_31, r_32, r_33, r_34, r_35, r_36, r_37, rp_0, rp_1, rp_26, rp_28, rp_30, rp_33, rp_35, rp_37, Option.bind_some, bRT, bRW, bWW, bW, le0, ne10, if_true, if_false, not_true_eq_false, not_false_eq_true, uI_at, uA_1, uB_1, uG_1, uI_2, m_wid hM hn hi, m_hei hM hn hi, e2, e4, nI_add, nI_l (show k / 2 < 2 ^ 31 by omega), lN_mul, ← nI_l hb, tl_lt]
  rw [if_neg (show ¬ nI k ≤ (5 : Int32) from nI_ge (a := 5) (by omega) (by omega))]
  by_cases a : s.1 i 25 < nI (n * (k / 2))
  · rw [if_pos a, if_neg (fun z => z.1 a)]
  · rw [if_neg a]
    by_cases b : s.1 i 26 < nI (k + k / 4)
    · rw [if_pos b, if_neg (fun z => z.2 b)]
    · rw [if_neg b, if_pos ⟨a, b⟩]
theorem f_sz {N h : Nat} (hN : 10000 ≤ N) {σ : SG} {s : AS} (hM : RM σ s) (hn : s.2.2.2 ≤ 40) {i : Nat} (hi : i < s.2.2.2) {n : Nat} (hn3 : n ≤ 30) : DX10_sizeOf_34 N (h + 275) (nI i) (lN n) (HH h σ) = some (szf (s.1 i 25) (s.1 i 26) n, HH h σ) := by
  obtain ⟨w, rfl⟩ : ∃ w, N = w + 6 := ⟨N - 6, by omega⟩
  unfold DX10_sizeOf_34 szf
  have h0 : DX10_sizeOf_39 (w + 6) (w + 1) (h + 275) (nI i) (lN n) (nI 3) (HH h σ) = some (-6, HH h σ) := by
    rw [DX10_sizeOf_39, if_pos (by decide)]
  have h1 := f_szs (N := w + 6) (h := h) hM hn hi n (w + 5) 96 hn3 (by omega)
  have h2 := f_szs (N := w + 6) (h := h) hM hn hi n (w + 4) 48 hn3 (by omega)
  have h3 := f_szs (N := w + 6) (h := h) hM hn hi n (w + 3) 24 hn3 (by omega)
  have h4 := f_szs (N := w + 6) (h := h) hM hn hi n (w + 2) 12 hn3 (by omega)
  have h5 := f_szs (N := w + 6) (h := h) hM hn hi n (w + 1) 6 hn3 (by omega)
  rw [show (96 : Int32) = nI 96 from rfl, h1]
  by_cases c1 : fit (s.1 i 25) (s.1 i 26) n 96
  · rw [if_pos c1, if_pos c1]
  · rw [if_neg c1, if_neg c1, show 96 / 2 = 48 from rfl, h2]
    by_cases c2 : fit (s.1 i 25) (s.1 i 26) n 48
    · rw [if_pos c2, if_pos c2]; rfl
    · rw [if_neg c2, if_neg c2, show 48 / 2 = 24 from rfl, h3]
      by_cases c3 : fit (s.1 i 25) (s.1 i 26) n 24
      · rw [if_pos c3, if_pos c3]; rfl
      · rw [if_neg c3, if_neg c3, show 24 / 2 = 12 from rfl, h4]
        by_cases c4 : fit (s.1 i 25) (s.1 i 26) n 12
        · rw [if_pos c4, if_pos c4]; rfl
        · rw [if_neg c4, if_neg c4, show 12 / 2 = 6 from rfl, h5]
          by_cases c5 : fit (s.1 i 25) (s.1 i 26) n 6
          · rw [if_pos c5, if_pos c5]; rfl
          · rw [if_neg c5, if_neg c5]
            exact h0
theorem szk_le {σ : SG} {s : AS} (hC : RC σ s) (hI : Inv s) {m : Nat} (hm : m < s.2.2.2) : szk s m ≤ 30 := by
  unfold szk
  split
  · exact showL_len hC hI hm
  · obtain ⟨d, hd, e⟩ := (hI.V hm).2.1
    rw [e, nI_clamp (by omega)]
    exact hd
theorem f_cells {N h : Nat} {σ : SG} {s : AS} (hM : RM σ s) (hI : Inv s) {m : Nat} (hm : m < s.2.2.2) : DX10_cells N (h + 275) (nI m) (HH h σ) = some (s.1 m 21) := by
  have hn := hI.n40
  simp only [DX10_cells, r_ck, r_0, r_1, r_2, r_3, r_4, r_5, r_6, r_7, r_8, r_9, r_10, r_11, r_12, r_13, r_14, r_15, r_16, r_17, r_18, r_19, r_20, r_21, r_22, r_23, r_24, r_25, r_26, r_27, r_28, r_29, r_30, r_31, r_32, r_33, r_34, r_35, r_36, r_37, rp_0, rp_1, rp_26, rp_28, rp_30, rp_33, rp_35, rp_37, Option.bind_some, bRT, bRW, bWW, bW, le0, ne10, if_true, if_false, not_true_eq_false, not_false_eq_true, uI_at, uA_1, uB_1, uG_1, uI_2, m_kind hM hn hm, m_set1 hM hn hm]
  by_cases k : s.1 m 1 = 1
  · rw [if_pos k]
  · rw [if_neg k, (hI.V hm).1 k]
theorem f_sizeOf {N h : Nat} (hN : 10000 ≤ N) {σ : SG} {s : AS} (hM : RM σ s) (hI : Inv s) {i m : Nat} (hi : i < s.2.2.2) (hm : m < s.2.2.2) (e : s.1 i 4 = nI m) (hl : (s.2.2.1 m 0).length ≤ 30 ∧ (s.2.2.1 m 1).length ≤ 12) (hsl : (showL s m).length ≤ 30) (hsz : szk s m ≤ 30) : DX10_sizeOf N (h + 275) (nI i) (HH h σ) = some (sz s i m, HH h (mapp (uI σ 275 28 0) (showL s m))) := by
  have hn := hI.n40
  have hM1 := (hM.rsz 0).mapp (showL s m)
  obtain ⟨k0, r0⟩ := mr0 σ
  obtain ⟨k1, r1⟩ := mstep k0 (showL s m) (by omega)
  rw [r0, Nat.zero_add] at r1
  have hI28 : (mapp (uI σ 275 28 0) (showL s m)).1 275 28 = nI (showL s m).length := by rw [k1.1, r1]
  simp only [DX10_sizeOf, r_ck, r_0, r_1, r_2, r_3, r_4, r_5, r_6, r_7, r_8, r_9, r_10, r_11, r_12, r_13, r_14, r_15, r_16, r_17, r_18, r_19, r_20, r_21, r_22, r_23, r_24, r_25, r_26, r_27, r_28, r_29, r_30, r_31, r_32, r_33, r_34, r_35, r_36, r_37, rp_0, rp_1, rp_26, rp_28, rp_30, rp_33, rp_35, rp_37, Option.bind_some, bRT, bRW, bWW, bW, le0, ne10, if_true, if_false, not_true_eq_false, not_false_eq_true, uI_at, uA_1, uB_1, uG_1, uI_2, m_fst hM hn hi, e, f_show hN hM hI hm hl, f_cells hM1 hI hm, hI28]
  unfold sz
  by_cases c : s.1 m 21 ≤ 0
  · rw [if_pos c, nI_l (by omega), f_sz hN hM1 hn hi (by omega)]
    unfold szk
    rw [if_pos c]
  · obtain ⟨d, hd, e2⟩ := (hI.V hm).2.1
    have : szk s m = d := by
      unfold szk
      rw [if_neg c, e2, nI_clamp (by omega)]
    rw [if_neg c, e2, nI_l (by omega), f_sz hN hM1 hn hi (by omega), this]
theorem op_size {N h : Nat} (hN : 10000 ≤ N) {σ : SG} {s : AS} (hS : St σ s) (x : Int32) : Out h σ s ex2 (DX9_size N h x (HH h σ)) (fun σ' => DX10_size N (h + 275) x (HH h σ')) := by
  have hS' := hS
  obtain ⟨hC, hM, hI⟩ := hS
  have hn := hI.n40
  rcases ixc x hn with hx | ⟨i, hi, rfl⟩
  · refine Out.thr hS' 1 (by omega) 0 ?_ (fun σ' hM' => ?_)
    · simp only [DX9_size, o_ck, o_0, o_1, o_2, o_3, o_4, o_5, o_6, t_ck, t_0, v_ck, v_0, q_ck, q_0, q_1, q_2, q_3, q_4, wr_ck, wr_0, wr_1, wr_2, rd_ck, rd_0, rd_1, Option.bind_some, bRT, bRW, bWW, bW, le0, ne10, if_true, if_false, not_true_eq_false, not_false_eq_true, uI_at, uA_1, uB_1, uG_1, uI_2, e_tg0 hC hx]
      rfl
    · simp only [DX10_size, r_ck, r_0, r_1, r_2, r_3, r_4, r_5, r_6, r_7, r_8, r_9, r_10, r_11, r_12, r_13, r_14, r_15, r_16, r_17, r_18, r_19, r_20, r_21, r_22, r_23, r_24, r_25, r_26, r_27, r_28, r_29, r_30, r_31, r_32, r_33, r_34, r_35, r_36, r_37, rp_0, rp_1, rp_26, rp_28, rp_30, rp_33, rp_35, rp_37, Option.bind_some, bRT, bRW, bWW, bW, le0, ne10, if_true, if_false, not_true_eq_false, not_false_eq_true, uI_at, uA_1, uB_1, uG_1, uI_2, e_cf1 hM' hx, le1]
      rfl
  · obtain ⟨m, hm, e, ek⟩ := hI.f hi
    have hm4 : m < 40 := by omega
    have hi4 : i < 40 := by omega
    have hl := hC.len hm4
    have hsl := showL_len hC hI hm
    have hsz := szk_le hC hI hm
    by_cases hk : s.1 i 1 = 0
    · refine Out.thr hS' 2 (by omega) 0 ?_ (fun σ' hM' => ?_)
      · simp only [DX9_size, o_ck, o_0, o_1, o_2, o_3, o_4, o_5, o_6, t_ck, t_0, v_ck, v_0, q_ck, q_0, q_1, q_2, q_3, q_4, wr_ck, wr_0, wr_1, wr_2, rd_ck, rd_0, rd_1, Option.bind_some, bRT, bRW, bWW, bW, le0, ne10, if_true, if_false, not_true_eq_false, not_false_eq_true, uI_at, uA_1, uB_1, uG_1, uI_2, e_tg hC hi, e_mw2 hC hi hm e (ek.trans hk)]
        rfl
      · simp only [DX10_size, r_ck, r_0, r_1, r_2, r_3, r_4, r_5, r_6, r_7, r_8, r_9, r_10, r_11, r_12, r_13, r_14, r_15, r_16, r_17, r_18, r_19, r_20, r_21, r_22, r_23, r_24, r_25, r_26, r_27, r_28, r_29, r_30, r_31, r_32, r_33, r_34, r_35, r_36, r_37, rp_0, rp_1, rp_26, rp_28, rp_30, rp_33, rp_35, rp_37, Option.bind_some, bRT, bRW, bWW, bW, le0, ne10, if_true, if_false, not_true_eq_false, not_false_eq_true, uI_at, uA_1, uB_1, uG_1, uI_2, e_cf2 hM' hn hi hk, le2]
        rfl
    · have hkm : ¬ s.1 m 1 = 0 := by rw [ek]; exact hk
      have hC1 := hC.shown (showL s m)
      refine ⟨s, rapp (uI σ 244 1 0) 244 (showL s m), .inl (sz s i m), ?_, hC1, hI, shown_fc, fun σ' hM' => ⟨sz s i m, mapp (uI (uI σ' 275 0 0) 275 28 0) (showL s m), ?_, ((hM'.thr 0).rsz 0).mapp _, fm.I.tr mapp_fm, Or.inl ⟨rfl, ?_⟩⟩⟩
      · have hrc : (rapp (uI σ 244 1 0) 244 (showL s m)).1 244 1 = nI (showL s m).length := by
          rw [hC1.view.2.2.1, ← rlist_len, shown_list hsl]
        simp only [DX9_size, DX7_fittingSize, DX7_fittingSize_29, o_ck, o_0, o_1, o_2, o_3, o_4, o_5, o_6, t_ck, t_0, v_ck, v_0, q_ck, q_0, q_1, q_2, q_3, q_4, wr_ck, wr_0, wr_1, wr_2, rd_ck, rd_0, rd_1, Option.bind_some, bRT, bRW, bWW, bW, le0, ne10, if_true, if_false, not_true_eq_false, not_false_eq_true, uI_at, uA_1, uB_1, uG_1, uI_2, e_tg hC hi, e_mw hC hi hm e hkm, e_show hN hC hI hm, e_count (r := 244) rfl, hrc, g7 hm4, c_t1 hC1 hm4]
        unfold sz
        by_cases c : s.1 m 21 ≤ 0
        · rw [if_pos c, e_sz hN hC1 hi4]
          simp only [Option.bind_some, bRT, bRW, bWW, bW, le0, ne10, if_true, if_false, not_true_eq_false, not_false_eq_true, uI_at, uA_1, uB_1, uG_1, uI_2]
          unfold szk
          rw [if_pos c]
        · obtain ⟨d, hd, e2⟩ := (hI.V hm).2.1
          have : szk s m = d := by
            unfold szk
            rw [if_neg c, e2, nI_clamp (by omega)]
          rw [if_neg c, e2, e_sz hN hC1 hi4, this]
          simp only [Option.bind_some, bRT, bRW, bWW, bW, le0, ne10, if_true, if_false, not_true_eq_false, not_false_eq_true, uI_at, uA_1, uB_1, uG_1, uI_2]
      · simp only [DX10_size, r_ck, r_0, r_1, r_2, r_3, r_4, r_5, r_6, r_7, r_8, r_9, r_10, r_11, r_12, r_13, r_14, r_15, r_16, r_17, r_18, r_19, r_20, r_21, r_22, r_23, r_24, r_25, r_26, r_27, r_28, r_29, r_30, r_31, r_32, r_33, r_34, r_35, r_36, r_37, rp_0, rp_1, rp_26, rp_28, rp_30, rp_33, rp_35, rp_37, Option.bind_some, bRT, bRW, bWW, bW, le0, ne10, if_true, if_false, not_true_eq_false, not_false_eq_true, uI_at, uA_1, uB_1, uG_1, uI_2, e_cf hM' hn hi hk, f_sizeOf hN (hM'.thr 0) hI hi hm e hl hsl hsz]
      · rw [mapp_I (by omega), uI_ne _ _ _ _ (by omega), uI_at]
