/-! formula -/
def sF (s : AS) (m : Nat) (op a b : Int32) : AS := sA (sA (sA s m 13 op) m 14 a) m 15 b
theorem sF_o {s : AS} {m : Nat} {op a b : Int32} {q j : Nat} (h : q ≠ m ∨ (j ≠ 13 ∧ j ≠ 14 ∧ j ≠ 15)) : (sF s m op a b).1 q j = s.1 q j := by
  simp only [sF, sA]
  rw [if_neg (by omega), if_neg (by omega), if_neg (by omega)]
theorem sF_13 {s : AS} {m : Nat} {op a b : Int32} : (sF s m op a b).1 m 13 = op := by simp [sF, sA]
theorem sF_14 {s : AS} {m : Nat} {op a b : Int32} : (sF s m op a b).1 m 14 = a := by simp [sF, sA]
theorem sF_15 {s : AS} {m : Nat} {op a b : Int32} : (sF s m op a b).1 m 15 = b := by simp [sF, sA]
theorem RMW.cong2 {σ τ : SG} {s t : AS} {i : Nat} (h : RMW σ s i) (hA : ∀ k c, k = 282 ∨ k = 283 ∨ k = 284 ∨ k = 285 ∨ k = 287 ∨ k = 288 ∨ k = 289 ∨ k = 295 ∨ k = 296 → τ.2.2.1 k c = σ.2.2.1 k c) (a1 : ∀ j, j = 5 ∨ j = 6 ∨ j = 16 ∨ 20 ≤ j → t.1 i j = s.1 i j) (a3 : t.2.2.1 = s.2.2.1) : RMW τ t i := by
  obtain ⟨⟨b1, b2, b3, b4⟩, b5, ⟨b6, b7⟩, ⟨b8, b9⟩⟩ := h
  unfold RMW
  rw [a3, a1 27 (by omega), a1 5 (by omega), a1 6 (by omega), a1 16 (by omega)]
  refine ⟨⟨?_, ?_, ?_, ?_⟩, fun j hj => ?_, ⟨?_, fun j hj => ?_⟩, ⟨?_, fun j hj => ?_⟩⟩
  all_goals rw [hA _ _ (by omega)]
  · exact b1
  · exact b2
  · exact b3
  · exact b4
  · rw [a1 _ (by omega)]; exact b5 j hj
  · exact b6
  · exact b7 j hj
  · exact b8
  · exact b9 j hj
theorem RM.form {σ : SG} {s : AS} {m : Nat} {op a b a' b' : Int32} (hM : RM σ s) (hC : ∀ q, q < 40 → (s.2.2.1 q 0).length ≤ 30 ∧ (s.2.2.1 q 1).length ≤ 12) (hn : s.2.2.2 ≤ 40) (hm : m < s.2.2.2) (h2 : two op → a' = s.1 a.toNatClampNeg 4 ∧ b' = s.1 b.toNatClampNeg 4) (h6 : op = 6 ∨ op = 7 → a' = a) : RM (uA (uA (uA σ 292 m op) 293 m a') 294 m b') (sF s m op a b) := by
  have hA : ∀ k c, (k ≠ 292 ∧ k ≠ 293 ∧ k ≠ 294) ∨ c ≠ m → (uA (uA (uA σ 292 m op) 293 m a') 294 m b').2.2.1 k c = σ.2.2.1 k c := fun k c h => by
    rw [uA_ne _ _ _ _ (by omega), uA_ne _ _ _ _ (by omega), uA_ne _ _ _ _ (by omega)]
  refine hM.one hC hn (i := m) (by omega) (fun _ _ _ => rfl) (fun k c _ _ hc => ?_) (fun k _ _ _ => ?_) (fun _ _ _ => rfl) (fun _ => ?_) ?_ rfl (fun q hq => ⟨?_, rfl, rfl⟩) (fun q => sF_o (Or.inr (by omega)))
  · by_cases e : k = 292 ∨ k = 293 ∨ k = 294
    · refine hA k c (Or.inr (fun q => hc ?_))
      rcases e with rfl | rfl | rfl <;> simpa [mcell] using q
    · exact hA k c (Or.inl (by omega))
  · funext c
    exact hA k c (Or.inl (by omega))
  · obtain ⟨⟨b1, b2, b3, b4, b5, b6⟩, b7, ⟨b8, b9⟩, b10, b11, b12⟩ := hM.F hm
    have e1 : ∀ j, j ≠ 13 ∧ j ≠ 14 ∧ j ≠ 15 → (sF s m op a b).1 m j = s.1 m j := fun j hj => sF_o (Or.inr hj)
    unfold RMF
    rw [sF_13, sF_14, sF_15, e1 1 (by omega), e1 2 (by omega), e1 3 (by omega), e1 4 (by omega), e1 25 (by omega), e1 26 (by omega), e1 10 (by omega)]
    refine ⟨⟨?_, ?_, ?_, ?_, ?_, ?_⟩, fun hp => ?_, ⟨b8, b9⟩, ?_, fun hp => ⟨?_, ?_⟩, fun hp => ?_⟩
    · rw [hA _ _ (Or.inl (by omega))]; exact b1
    · rw [hA _ _ (Or.inl (by omega))]; exact b2
    · rw [hA _ _ (Or.inl (by omega))]; exact b3
    · rw [hA _ _ (Or.inl (by omega))]; exact b4
    · rw [hA _ _ (Or.inl (by omega))]; exact b5
    · rw [hA _ _ (Or.inl (by omega))]; exact b6
    · rw [hA _ _ (Or.inl (by omega))]; exact b7 hp
    · rw [uA_ne _ _ _ _ (by omega), uA_ne _ _ _ _ (by omega), uA_at]
    · rw [uA_ne _ _ _ _ (by omega), uA_at, sF_o (Or.inr (by omega))]
      exact (h2 hp).1
    · rw [uA_at, sF_o (Or.inr (by omega))]
      exact (h2 hp).2
    · rw [uA_ne _ _ _ _ (by omega), uA_at]
      exact h6 hp
  · refine (hM.W (show m < 40 by omega)).cong2 (fun k c hk => hA k c (Or.inl (by omega))) (fun j hj => sF_o (Or.inr (by omega))) rfl
  · funext j
    exact sF_o (Or.inl hq)
theorem Inv.form {s : AS} {m : Nat} {op a b : Int32} (h : Inv s) (hm : m < s.2.2.2) (h1 : op = -1 ∨ (∃ o, o ≤ 7 ∧ op = nI o)) (hk : s.1 m 1 = 5) (hf : s.1 m 4 = nI m) (h2 : two op → ∃ x y, x < s.2.2.2 ∧ y < s.2.2.2 ∧ a = nI x ∧ b = nI y ∧ (s.1 x 1 = 2 ∨ s.1 x 1 = 5) ∧ (s.1 y 1 = 2 ∨ s.1 y 1 = 5)) (h6 : op = 6 → ∃ x, x < s.2.2.2 ∧ a = nI x) : Inv (sF s m op a b) := by
  refine h.one hm rfl (fun q j hj => sF_o (Or.inr (by omega))) (fun q hq _ => ⟨by funext j; exact sF_o (Or.inl hq), rfl, rfl⟩) ?_ ?_ (by rw [sF_o (Or.inr (by omega))]; exact h.side hm)
  · have := h.V hm
    unfold VI at this ⊢
    rw [sF_o (Or.inr (by omega)), sF_o (Or.inr (by omega)), sF_o (Or.inr (by omega)), sF_o (Or.inr (by omega))]
    exact this
  · unfold OI
    rw [sF_13, sF_14, sF_15, sF_o (Or.inr (by omega)), sF_o (Or.inr (by omega))]
    refine ⟨?_, fun hp => ?_, h6⟩
    · rcases h1 with h1 | h1
      · exact Or.inl h1
      · exact Or.inr ⟨h1, hk, hf⟩
    · obtain ⟨x, y, q1, q2, q3, q4, q5, q6⟩ := h2 hp
      exact ⟨x, y, q1, q2, q3, q4, by rw [sF_o (Or.inr (by omega))]; exact q5, by rw [sF_o (Or.inr (by omega))]; exact q6⟩
theorem op_form {N h : Nat} {σ : SG} {s : AS} (hS : St σ s) {i m : Nat} (hi : i < s.2.2.2) (hm : m < s.2.2.2) (e : s.1 i 4 = nI m) (ek : s.1 m 1 = s.1 i 1) (hf : s.1 m 4 = nI m) (hk : s.1 i 1 = 5) {op a b : Int32} {bo : Int32} (h1 : op = -1 ∨ (∃ o, o ≤ 7 ∧ op = nI o)) (hb : (bo = 0 ∧ ¬ two op) ∨ (bo = 1 ∧ two op)) (h2 : two op → ∃ x y, x < s.2.2.2 ∧ y < s.2.2.2 ∧ a = nI x ∧ b = nI y ∧ (s.1 x 1 = 2 ∨ s.1 x 1 = 5) ∧ (s.1 y 1 = 2 ∨ s.1 y 1 = 5)) (h6 : op = 6 → ∃ x, x < s.2.2.2 ∧ a = nI x) (hcl : DX1_mayWorkWith N (h + 246) op a b (HH h σ) = some (.inl 1)) (hrf : ∀ σ', RM σ' s → DX10_formula N (h + 275) (nI i) op a b (HH h σ') = DX10_formula_152 N (h + 275) (nI i) op a b bo (h + 275) 0 (HH h (uI σ' 275 0 0))) : Out h σ s ex2 (DX9_formula N h (nI i) op a b (HH h σ)) (fun σ' => DX10_formula N (h + 275) (nI i) op a b (HH h σ')) := by
  obtain ⟨hC, hM, hI⟩ := hS
  have hn := hI.n40
  have hm4 : m < 40 := by omega
  have hlen : ∀ q, q < 40 → (s.2.2.1 q 0).length ≤ 30 ∧ (s.2.2.1 q 1).length ≤ 12 := fun q hq => hC.len hq
  have hA : (s.1 m 13 < 0) = (s.1 m 13 = -1) := by
    rcases (hI.O hm).1 with q | ⟨⟨o, ho, q⟩, _⟩
    · rw [q]; exact propext ⟨fun _ => rfl, fun _ => by decide⟩
    · rw [q]
      exact propext ⟨fun z => absurd z (nI_pos (by omega)), fun z => absurd z (nI_nm1 (by omega))⟩
  refine ⟨sF s m op a b, uI (uI (uI σ (3 + 6 * m) 13 op) (3 + 6 * m) 14 a) (3 + 6 * m) 15 b, .inl (if s.1 m 13 = -1 then 0 else 1), ?_, ((hC.I hm4 (by omega) _).I hm4 (by omega) _).I hm4 (by omega) _, hI.form hm h1 (ek.trans hk) hf h2 h6, ((fc.I (by omega)).tr (fc.I (by omega))).tr (fc.I (by omega)), fun σ' hM' => ?_⟩
  · simp only [DX9_formula, DX9_formula_55, o_ck, o_0, o_1, o_2, o_3, o_4, o_5, o_6, t_ck, t_0, v_ck, v_0, q_ck, q_0, q_1, q_2, q_3, q_4, wr_ck, wr_0, wr_1, wr_2, rd_ck, rd_0, rd_1, Option.bind_some, bRT, bRW, bWW, bW, le0, ne10, if_true, if_false, not_true_eq_false, not_false_eq_true, uI_at, uA_1, uB_1, uG_1, uI_2, e_tm hC hi hm e, hcl, c_1 hC hm4, ek, hk, c_13 hC hm4, p_1_13 (kd_F hm4), p_1_14 (kd_F hm4), p_1_15 (kd_F hm4)]
    split <;> rfl
  · have hM0 := hM'.thr 0
    have fin : ∀ a' b', (two op → a' = s.1 a.toNatClampNeg 4 ∧ b' = s.1 b.toNatClampNeg 4) → (op = 6 ∨ op = 7 → a' = a) → DX10_formula N (h + 275) (nI i) op a b (HH h σ') = some (if s.1 m 13 = -1 then 0 else 1, HH h (uA (uA (uA (uI σ' 275 0 0) 292 m op) 293 m a') 294 m b')) → ∃ b_1 τ, DX10_formula N (h + 275) (nI i) op a b (HH h σ') = some (b_1, HH h τ) ∧ RM τ (sF s m op a b) ∧ fm σ' τ ∧ ((Sum.inl (if s.1 m 13 = -1 then 0 else 1) : Int32 ⊕ String) = .inl b_1 ∧ τ.1 275 0 = 0 ∨ ∃ e, 0 < e ∧ e < 5 ∧ (Sum.inl (if s.1 m 13 = -1 then 0 else 1) : Int32 ⊕ String) = .inr (ex2 e) ∧ τ.1 275 0 = nI e ∧ ¬ ex2 e = "") := fun a' b' q1 q2 q3 =>
      ⟨_, _, q3, hM0.form hlen hn hm q1 q2, ((fm.I.tr (fm.A (by omega))).tr (fm.A (by omega))).tr (fm.A (by omega)), Or.inl ⟨rfl, by simp only [Option.bind_some, bRT, bRW, bWW, bW, le0, ne10, if_true, if_false, not_true_eq_false, not_false_eq_true, uI_at, uA_1, uB_1, uG_1, uI_2]⟩⟩
    have hx : m < ln 292 := hm4
    have hy : m < ln 293 := hm4
    have hz : m < ln 294 := hm4
    rcases hb with ⟨rfl, hb⟩ | ⟨rfl, hb⟩
    · refine fin a b (fun q => absurd q hb) (fun _ => rfl) ?_
      rw [hrf σ' hM']
      simp only [DX10_formula_152, DX10_formula_187, DX10_formula_218, DX10_formula_242, r_ck, r_0, r_1, r_2, r_3, r_4, r_5, r_6, r_7, r_8, r_9, r_10, r_11, r_12, r_13, r_14, r_15, r_16, r_17, r_18, r_19, r_20, r_21, r_22, r_23, r_24, r_25, r_26, r_27, r_28, r_29, r_30, r_31, r_32, r_33, r_34, r_35, r_36, r_37, rp_0, rp_1, rp_26, rp_28, rp_30, rp_33, rp_35, rp_37, Option.bind_some, bRT, bRW, bWW, bW, le0, ne10, if_true, if_false, not_true_eq_false, not_false_eq_true, uI_at, uA_1, uB_1, uG_1, uI_2, uI_uI, m_fst hM0 hn hi, e, m_op hM0 hn hm, hA, sN0 (k := 292) rfl hx, sN0 (k := 293) rfl hy, sN0 (k := 294) rfl hz]
      split <;> rfl
    · obtain ⟨x, y, q1, q2, q3, q4, q5, q6⟩ := h2 hb
      have ca : a.toNatClampNeg = x := by rw [q3]; exact nI_clamp (by omega)
      have cb : b.toNatClampNeg = y := by rw [q4]; exact nI_clamp (by omega)
      refine fin (s.1 x 4) (s.1 y 4) (fun q => by rw [ca, cb]; exact ⟨rfl, rfl⟩) (fun q => ?_) ?_
      · rcases q with q | q <;> rw [q] at hb <;> exact absurd hb.2 (by decide)
      · rw [hrf σ' hM', q3, q4]
        have f1 : (uA (uI σ' 275 0 0) 292 m op).2.2.1 279 x = s.1 x 4 := by
          rw [uA_ne _ _ _ _ (by omega)]; exact (hM0.F q1).1.2.2.2.1
        have f2 : (uA (uA (uI σ' 275 0 0) 292 m op) 293 m (s.1 x 4)).2.2.1 279 y = s.1 y 4 := by
          rw [uA_ne _ _ _ _ (by omega), uA_ne _ _ _ _ (by omega)]; exact (hM0.F q2).1.2.2.2.1
        simp only [DX10_formula_152, DX10_formula_187, DX10_formula_218, DX10_formula_242, r_ck, r_0, r_1, r_2, r_3, r_4, r_5, r_6, r_7, r_8, r_9, r_10, r_11, r_12, r_13, r_14, r_15, r_16, r_17, r_18, r_19, r_20, r_21, r_22, r_23, r_24, r_25, r_26, r_27, r_28, r_29, r_30, r_31, r_32, r_33, r_34, r_35, r_36, r_37, rp_0, rp_1, rp_26, rp_28, rp_30, rp_33, rp_35, rp_37, Option.bind_some, bRT, bRW, bWW, bW, le0, ne10, if_true, if_false, not_true_eq_false, not_false_eq_true, uI_at, uA_1, uB_1, uG_1, uI_2, uI_uI, m_fst hM0 hn hi, e, m_op hM0 hn hm, hA, sN0 (k := 292) rfl hx, aN0 (σ := uA (uI σ' 275 0 0) 292 m op) (k := 279) rfl (show x < ln 279 from show x < 40 by omega), f1, sN0 (k := 293) rfl hy, aN0 (σ := uA (uA (uI σ' 275 0 0) 292 m op) 293 m (s.1 x 4)) (k := 279) rfl (show y < ln 279 from show y < 40 by omega), f2, sN0 (k := 294) rfl hz]
        split <;> rfl
abbrev rk (s : AS) (x : Nat) : Prop := s.1 x 1 = 5 ∨ s.1 x 1 = 2
theorem e_rk {N h : Nat} {σ : SG} {s : AS} (hC : RC σ s) {m : Nat} (hm4 : m < 40) : DX1_canBeReckoned N (h + (3 + 6 * m)) (HH h σ) = some (if rk s m then 1 else 0) := by
  simp only [DX1_canBeReckoned, Option.bind_some, bRT, bRW, bWW, bW, le0, ne10, if_true, if_false, not_true_eq_false, not_false_eq_true, uI_at, uA_1, uB_1, uG_1, uI_2, c_1 hC hm4]
  by_cases a : s.1 m 1 = 5 <;> by_cases b : s.1 m 1 = 2 <;> simp [rk, a, b]
theorem f_rk {N h : Nat} {σ : SG} {s : AS} (hM : RM σ s) (hn : s.2.2.2 ≤ 40) {m : Nat} (hm : m < s.2.2.2) : DX10_isAmount N (h + 275) (nI m) (HH h σ) = some (if rk s m then 1 else 0) := by
  simp only [DX10_isAmount, r_ck, r_0, r_1, r_2, r_3, r_4, r_5, r_6, r_7, r_8, r_9, r_10, r_11, r_12, r_13, r_14, r_15, r_16, r_17, r_18, r_19, r_20, r_21, r_22, r_23, r_24, r_25, r_26, r_27, r_28, r_29, r_30, r_31, r_32, r_33, r_34, r_35, r_36, r_37, rp_0, rp_1, rp_26, rp_28, rp_30, rp_33, rp_35, rp_37, Option.bind_some, bRT, bRW, bWW, bW, le0, ne10, if_true, if_false, not_true_eq_false, not_false_eq_true, uI_at, uA_1, uB_1, uG_1, uI_2, m_kind hM hn hm]
  by_cases a : s.1 m 1 = 5 <;> by_cases b : s.1 m 1 = 2 <;> simp [rk, a, b]
theorem op_formula {N h : Nat} {σ : SG} {s : AS} (hS : St σ s) (x op a b : Int32) : Out h σ s ex2 (DX9_formula N h x op a b (HH h σ)) (fun σ' => DX10_formula N (h + 275) x op a b (HH h σ')) := by
  have hS' := hS
  obtain ⟨hC, hM, hI⟩ := hS
  have hn := hI.n40
  have l0 : (0 : Int64) = (0 : Int32).toInt64 := rfl
  have l5 : (5 : Int64) = (5 : Int32).toInt64 := rfl
  have l1 : (-1 : Int64) = (-1 : Int32).toInt64 := rfl
  have l7 : (7 : Int64) = (7 : Int32).toInt64 := rfl
  rcases ixc x hn with hx | ⟨i, hi, rfl⟩
  · refine Out.thr hS' 1 (by omega) 0 ?_ (fun σ' hM' => ?_)
    · simp only [DX9_formula, o_ck, o_0, o_1, o_2, o_3, o_4, o_5, o_6, t_ck, t_0, v_ck, v_0, q_ck, q_0, q_1, q_2, q_3, q_4, wr_ck, wr_0, wr_1, wr_2, rd_ck, rd_0, rd_1, Option.bind_some, bRT, bRW, bWW, bW, le0, ne10, if_true, if_false, not_true_eq_false, not_false_eq_true, uI_at, uA_1, uB_1, uG_1, uI_2, e_tm0 hC hx]
      rfl
    · simp only [DX10_formula, DX10_formula_56, DX10_formula_61, r_ck, r_0, r_1, r_2, r_3, r_4, r_5, r_6, r_7, r_8, r_9, r_10, r_11, r_12, r_13, r_14, r_15, r_16, r_17, r_18, r_19, r_20, r_21, r_22, r_23, r_24, r_25, r_26, r_27, r_28, r_29, r_30, r_31, r_32, r_33, r_34, r_35, r_36, r_37, rp_0, rp_1, rp_26, rp_28, rp_30, rp_33, rp_35, rp_37, Option.bind_some, bRT, bRW, bWW, bW, le0, ne10, if_true, if_false, not_true_eq_false, not_false_eq_true, uI_at, uA_1, uB_1, uG_1, uI_2, l0, l5, ii_eq, e_no0 hM' hx, le1]
      rfl
  · obtain ⟨m, hmi, e, hf, ek⟩ := hI.fst hi
    have hm : m < s.2.2.2 := by omega
    have hm4 : m < 40 := by omega
    have hi4 : i < 40 := by omega
    by_cases ht : two op
    · have n0 : ¬ op < 0 := Int32.not_lt.mpr ht.1
      have n5' : ¬ (5 : Int32) < op := Int32.not_lt.mpr ht.2
      have n6 : ¬ op = 6 := fun q => by rw [q] at ht; exact absurd ht.2 (by decide)
      have tt : ((0 : Int32) ≤ op ∧ op ≤ (5 : Int32)) = True := eq_true ht
      have t7 : ((-1 : Int32) ≤ op ∧ op ≤ (7 : Int32)) = True := eq_true (by
        have h1 := ht.1
        have h2 := ht.2
        rw [Int32.le_iff_toInt_le] at h1 h2 ⊢
        rw [Int32.le_iff_toInt_le]
        rw [i0T] at h1
        rw [show (5 : Int32).toInt = 5 from rfl] at h2
        rw [im1T, show (7 : Int32).toInt = 7 from rfl]
        omega)
      rcases ixc a hn with ha | ⟨p, hp, rfl⟩
      · refine Out.thr hS' 1 (by omega) 0 ?_ (fun σ' hM' => ?_)
        · simp only [DX9_formula, DX1_mayWorkWith, o_ck, o_0, o_1, o_2, o_3, o_4, o_5, o_6, t_ck, t_0, v_ck, v_0, q_ck, q_0, q_1, q_2, q_3, q_4, wr_ck, wr_0, wr_1, wr_2, rd_ck, rd_0, rd_1, Option.bind_some, bRT, bRW, bWW, bW, le0, ne10, if_true, if_false, not_true_eq_false, not_false_eq_true, uI_at, uA_1, uB_1, uG_1, uI_2, e_tm hC hi hm e, n0, n5', e_tg0 hC ha]
          rfl
        · simp only [DX10_formula, DX10_formula_56, DX10_formula_61, r_ck, r_0, r_1, r_2, r_3, r_4, r_5, r_6, r_7, r_8, r_9, r_10, r_11, r_12, r_13, r_14, r_15, r_16, r_17, r_18, r_19, r_20, r_21, r_22, r_23, r_24, r_25, r_26, r_27, r_28, r_29, r_30, r_31, r_32, r_33, r_34, r_35, r_36, r_37, rp_0, rp_1, rp_26, rp_28, rp_30, rp_33, rp_35, rp_37, Option.bind_some, bRT, bRW, bWW, bW, le0, ne10, if_true, if_false, not_true_eq_false, not_false_eq_true, uI_at, uA_1, uB_1, uG_1, uI_2, l0, l5, ii_eq, e_no hM' hn hi, tt, e_no0 hM' ha, le1]
          rfl
      · rcases ixc b hn with hb | ⟨q, hq, rfl⟩
        · refine Out.thr hS' 1 (by omega) 0 ?_ (fun σ' hM' => ?_)
          · simp only [DX9_formula, DX1_mayWorkWith, o_ck, o_0, o_1, o_2, o_3, o_4, o_5, o_6, t_ck, t_0, v_ck, v_0, q_ck, q_0, q_1, q_2, q_3, q_4, wr_ck, wr_0, wr_1, wr_2, rd_ck, rd_0, rd_1, Option.bind_some, bRT, bRW, bWW, bW, le0, ne10, if_true, if_false, not_true_eq_false, not_false_eq_true, uI_at, uA_1, uB_1, uG_1, uI_2, e_tm hC hi hm e, n0, n5', e_tg hC hp, e_tg0 hC hb]
            rfl
          · simp only [DX10_formula, DX10_formula_56, DX10_formula_61, r_ck, r_0, r_1, r_2, r_3, r_4, r_5, r_6, r_7, r_8, r_9, r_10, r_11, r_12, r_13, r_14, r_15, r_16, r_17, r_18, r_19, r_20, r_21, r_22, r_23, r_24, r_25, r_26, r_27, r_28, r_29, r_30, r_31, r_32, r_33, r_34, r_35, r_36, r_37, rp_0, rp_1, rp_26, rp_28, rp_30, rp_33, rp_35, rp_37, Option.bind_some, bRT, bRW, bWW, bW, le0, ne10, if_true, if_false, not_true_eq_false, not_false_eq_true, uI_at, uA_1, uB_1, uG_1, uI_2, l0, l5, ii_eq, e_no hM' hn hi, tt, e_no hM' hn hp, e_no0 hM' hb, le1]
            rfl
        · have hp4 : p < 40 := by omega
          have hq4 : q < 40 := by omega
          by_cases hg : s.1 i 1 = 5 ∧ rk s p ∧ rk s q
          · refine op_form hS' hi hm e ek hf hg.1 (bo := 1) ?_ (Or.inr ⟨rfl, ht⟩) (fun _ => ⟨p, q, hp, hq, rfl, rfl, hg.2.1.symm, hg.2.2.symm⟩) (fun z => absurd z n6) ?_ (fun σ' hM' => ?_)
            · obtain ⟨o, ho, eo⟩ := rng (n := 5) (by omega) n0 n5'
              exact Or.inr ⟨o, by omega, eo⟩
            · simp only [DX1_mayWorkWith, o_ck, o_0, o_1, o_2, o_3, o_4, o_5, o_6, t_ck, t_0, v_ck, v_0, q_ck, q_0, q_1, q_2, q_3, q_4, wr_ck, wr_0, wr_1, wr_2, rd_ck, rd_0, rd_1, Option.bind_some, bRT, bRW, bWW, bW, le0, ne10, if_true, if_false, not_true_eq_false, not_false_eq_true, uI_at, uA_1, uB_1, uG_1, uI_2, n0, n5', e_tg hC hp, e_tg hC hq, e_rk hC hp4, e_rk hC hq4, hg.2.1, hg.2.2]
            · have hM0 := hM'.thr 0
              simp only [DX10_formula, DX10_formula_42, DX10_formula_60, DX10_formula_61, DX10_formula_119, DX10_formula_134, DX10_formula_138, DX10_formula_139, r_ck, r_0, r_1, r_2, r_3, r_4, r_5, r_6, r_7, r_8, r_9, r_10, r_11, r_12, r_13, r_14, r_15, r_16, r_17, r_18, r_19, r_20, r_21, r_22, r_23, r_24, r_25, r_26, r_27, r_28, r_29, r_30, r_31, r_32, r_33, r_34, r_35, r_36, r_37, rp_0, rp_1, rp_26, rp_28, rp_30, rp_33, rp_35, rp_37, Option.bind_some, bRT, bRW, bWW, bW, le0, ne10, if_true, if_false, not_true_eq_false, not_false_eq_true, uI_at, uA_1, uB_1, uG_1, uI_2, l0, l5, l1, l7, ii_eq, e_no hM' hn hi, tt, t7, e_no hM' hn hp, e_no hM' hn hq, n6, m_kind hM0 hn hi, hg.1, f_rk hM0 hn hp, f_rk hM0 hn hq, hg.2.1, hg.2.2]
          · refine Out.thr hS' 2 (by omega) 0 ?_ (fun σ' hM' => ?_)
            · simp only [DX9_formula, DX1_mayWorkWith, o_ck, o_0, o_1, o_2, o_3, o_4, o_5, o_6, t_ck, t_0, v_ck, v_0, q_ck, q_0, q_1, q_2, q_3, q_4, wr_ck, wr_0, wr_1, wr_2, rd_ck, rd_0, rd_1, Option.bind_some, bRT, bRW, bWW, bW, le0, ne10, if_true, if_false, not_true_eq_false, not_false_eq_true, uI_at, uA_1, uB_1, uG_1, uI_2, e_tm hC hi hm e, n0, n5', e_tg hC hp, e_tg hC hq, e_rk hC hp4, e_rk hC hq4, c_1 hC hm4, ek]
              by_cases g1 : rk s p
              · by_cases g2 : rk s q
                · have g3 : ¬ s.1 i 1 = 5 := fun z => hg ⟨z, g1, g2⟩
                  simp only [g1, g2, g3, Option.bind_some, bRT, bRW, bWW, bW, le0, ne10, if_true, if_false, not_true_eq_false, not_false_eq_true, uI_at, uA_1, uB_1, uG_1, uI_2]; rfl
                · simp only [g1, g2, Option.bind_some, bRT, bRW, bWW, bW, le0, ne10, if_true, if_false, not_true_eq_false, not_false_eq_true, uI_at, uA_1, uB_1, uG_1, uI_2]; rfl
              · simp only [g1, Option.bind_some, bRT, bRW, bWW, bW, le0, ne10, if_true, if_false, not_true_eq_false, not_false_eq_true, uI_at, uA_1, uB_1, uG_1, uI_2]; rfl
            · have hM0 := hM'.thr 0
              simp only [DX10_formula, DX10_formula_42, DX10_formula_60, DX10_formula_61, DX10_formula_119, DX10_formula_134, DX10_formula_138, DX10_formula_139, r_ck, r_0, r_1, r_2, r_3, r_4, r_5, r_6, r_7, r_8, r_9, r_10, r_11, r_12, r_13, r_14, r_15, r_16, r_17, r_18, r_19, r_20, r_21, r_22, r_23, r_24, r_25, r_26, r_27, r_28, r_29, r_30, r_31, r_32, r_33, r_34, r_35, r_36, r_37, rp_0, rp_1, rp_26, rp_28, rp_30, rp_33, rp_35, rp_37, Option.bind_some, bRT, bRW, bWW, bW, le0, ne10, if_true, if_false, not_true_eq_false, not_false_eq_true, uI_at, uA_1, uB_1, uG_1, uI_2, l0, l5, l1, l7, ii_eq, e_no hM' hn hi, tt, t7, e_no hM' hn hp, e_no hM' hn hq, n6, m_kind hM0 hn hi, f_rk hM0 hn hp, f_rk hM0 hn hq]
              by_cases g3 : s.1 i 1 = 5
              · by_cases g1 : rk s p
                · have g2 : ¬ rk s q := fun z => hg ⟨g3, g1, z⟩
                  simp only [g1, g2, g3, Option.bind_some, bRT, bRW, bWW, bW, le0, ne10, if_true, if_false, not_true_eq_false, not_false_eq_true, uI_at, uA_1, uB_1, uG_1, uI_2, DX10_formula_152, r_ck, r_0, r_1, r_2, r_3, r_4, r_5, r_6, r_7, r_8, r_9, r_10, r_11, r_12, r_13, r_14, r_15, r_16, r_17, r_18, r_19, r_20, r_21, r_22, r_23, r_24, r_25, r_26, r_27, r_28, r_29, r_30, r_31, r_32, r_33, r_34, r_35, r_36, r_37, rp_0, rp_1, rp_26, rp_28, rp_30, rp_33, rp_35, rp_37, le2, uI_uI]; rfl
                · simp only [g1, g3, Option.bind_some, bRT, bRW, bWW, bW, le0, ne10, if_true, if_false, not_true_eq_false, not_false_eq_true, uI_at, uA_1, uB_1, uG_1, uI_2, DX10_formula_152, r_ck, r_0, r_1, r_2, r_3, r_4, r_5, r_6, r_7, r_8, r_9, r_10, r_11, r_12, r_13, r_14, r_15, r_16, r_17, r_18, r_19, r_20, r_21, r_22, r_23, r_24, r_25, r_26, r_27, r_28, r_29, r_30, r_31, r_32, r_33, r_34, r_35, r_36, r_37, rp_0, rp_1, rp_26, rp_28, rp_30, rp_33, rp_35, rp_37, le2, uI_uI]; rfl
              · simp only [g3, Option.bind_some, bRT, bRW, bWW, bW, le0, ne10, if_true, if_false, not_true_eq_false, not_false_eq_true, uI_at, uA_1, uB_1, uG_1, uI_2, DX10_formula_152, r_ck, r_0, r_1, r_2, r_3, r_4, r_5, r_6, r_7, r_8, r_9, r_10, r_11, r_12, r_13, r_14, r_15, r_16, r_17, r_18, r_19, r_20, r_21, r_22, r_23, r_24, r_25, r_26, r_27, r_28, r_29, r_30, r_31, r_32, r_33, r_34, r_35, r_36, r_37, rp_0, rp_1, rp_26, rp_28, rp_30, rp_33, rp_35, rp_37, le2, uI_uI]; rfl
    · have tt : ((0 : Int32) ≤ op ∧ op ≤ (5 : Int32)) = False := eq_false ht
      have hcl : ∀ a b, DX1_mayWorkWith N (h + 246) op a b (HH h σ) = DX1_mayWorkWith_51 N (HH h σ) (h + 246) op a := fun a b => by
        simp only [DX1_mayWorkWith, o_ck, o_0, o_1, o_2, o_3, o_4, o_5, o_6, t_ck, t_0, v_ck, v_0, q_ck, q_0, q_1, q_2, q_3, q_4, wr_ck, wr_0, wr_1, wr_2, rd_ck, rd_0, rd_1, Option.bind_some, bRT, bRW, bWW, bW, le0, ne10, if_true, if_false, not_true_eq_false, not_false_eq_true, uI_at, uA_1, uB_1, uG_1, uI_2]
        by_cases c0 : op < 0
        · rw [if_pos c0]
        · rw [if_neg c0, if_pos (Int32.not_le.mp (fun z => ht ⟨Int32.not_lt.mp c0, z⟩))]
      by_cases h6 : op = 6
      · subst h6
        rcases ixc a hn with ha | ⟨p, hp, rfl⟩
        · refine Out.thr hS' 1 (by omega) 0 ?_ (fun σ' hM' => ?_)
          · simp only [DX9_formula, hcl, DX1_mayWorkWith_51, o_ck, o_0, o_1, o_2, o_3, o_4, o_5, o_6, t_ck, t_0, v_ck, v_0, q_ck, q_0, q_1, q_2, q_3, q_4, wr_ck, wr_0, wr_1, wr_2, rd_ck, rd_0, rd_1, Option.bind_some, bRT, bRW, bWW, bW, le0, ne10, if_true, if_false, not_true_eq_false, not_false_eq_true, uI_at, uA_1, uB_1, uG_1, uI_2, e_tm hC hi hm e, e_tg0 hC ha]
            rfl
          · simp only [DX10_formula, DX10_formula_42, DX10_formula_56, DX10_formula_61, r_ck, r_0, r_1, r_2, r_3, r_4, r_5, r_6, r_7, r_8, r_9, r_10, r_11, r_12, r_13, r_14, r_15, r_16, r_17, r_18, r_19, r_20, r_21, r_22, r_23, r_24, r_25, r_26, r_27, r_28, r_29, r_30, r_31, r_32, r_33, r_34, r_35, r_36, r_37, rp_0, rp_1, rp_26, rp_28, rp_30, rp_33, rp_35, rp_37, Option.bind_some, bRT, bRW, bWW, bW, le0, ne10, if_true, if_false, not_true_eq_false, not_false_eq_true, uI_at, uA_1, uB_1, uG_1, uI_2, l0, l5, ii_eq, e_no hM' hn hi, tt, e_no0 hM' ha, le1]
            rfl
        · have hp4 : p < 40 := by omega
          by_cases hg : s.1 i 1 = 5 ∧ s.1 p 1 = 0
          · refine op_form hS' hi hm e ek hf hg.1 (bo := 0) (Or.inr ⟨6, by omega, rfl⟩) (Or.inl ⟨rfl, ht⟩) (fun z => absurd z ht) (fun _ => ⟨p, hp, rfl⟩) ?_ (fun σ' hM' => ?_)
            · simp only [hcl, DX1_mayWorkWith_51, o_ck, o_0, o_1, o_2, o_3, o_4, o_5, o_6, t_ck, t_0, v_ck, v_0, q_ck, q_0, q_1, q_2, q_3, q_4, wr_ck, wr_0, wr_1, wr_2, rd_ck, rd_0, rd_1, Option.bind_some, bRT, bRW, bWW, bW, le0, ne10, if_true, if_false, not_true_eq_false, not_false_eq_true, uI_at, uA_1, uB_1, uG_1, uI_2, e_tg hC hp, c_1 hC hp4, hg.2]
            · have hM0 := hM'.thr 0
              simp only [DX10_formula, DX10_formula_42, DX10_formula_60, DX10_formula_61, DX10_formula_119, DX10_formula_134, DX10_formula_138, DX10_formula_139, r_ck, r_0, r_1, r_2, r_3, r_4, r_5, r_6, r_7, r_8, r_9, r_10, r_11, r_12, r_13, r_14, r_15, r_16, r_17, r_18, r_19, r_20, r_21, r_22, r_23, r_24, r_25, r_26, r_27, r_28, r_29, r_30, r_31, r_32, r_33, r_34, r_35, r_36, r_37, rp_0, rp_1, rp_26, rp_28, rp_30, rp_33, rp_35, rp_37, Option.bind_some, bRT, bRW, bWW, bW, le0, ne10, if_true, if_false, not_true_eq_false, not_false_eq_true, uI_at, uA_1, uB_1, uG_1, uI_2, l0, l5, l1, l7, ii_eq, e_no hM' hn hi, tt, show ((-1 : Int32) ≤ 6 ∧ (6 : Int32) ≤ (7 : Int32)) = True from eq_true (by decide), e_no hM' hn hp, m_kind hM0 hn hi, hg.1, m_kind hM0 hn hp, hg.2]
          · refine Out.thr hS' 2 (by omega) 0 ?_ (fun σ' hM' => ?_)
            · simp only [DX9_formula, hcl, DX1_mayWorkWith_51, o_ck, o_0, o_1, o_2, o_3, o_4, o_5, o_6, t_ck, t_0, v_ck, v_0, q_ck, q_0, q_1, q_2, q_3, q_4, wr_ck, wr_0, wr_1, wr_2, rd_ck, rd_0, rd_1, Option.bind_some, bRT, bRW, bWW, bW, le0, ne10, if_true, if_false, not_true_eq_false, not_false_eq_true, uI_at, uA_1, uB_1, uG_1, uI_2, e_tm hC hi hm e, e_tg hC hp, c_1 hC hp4, c_1 hC hm4, ek]
              by_cases g1 : s.1 p 1 = 0
              · have g3 : ¬ s.1 i 1 = 5 := fun z => hg ⟨z, g1⟩
                simp only [g1, g3, Option.bind_some, bRT, bRW, bWW, bW, le0, ne10, if_true, if_false, not_true_eq_false, not_false_eq_true, uI_at, uA_1, uB_1, uG_1, uI_2]; rfl
              · simp only [g1, Option.bind_some, bRT, bRW, bWW, bW, le0, ne10, if_true, if_false, not_true_eq_false, not_false_eq_true, uI_at, uA_1, uB_1, uG_1, uI_2]; rfl
            · have hM0 := hM'.thr 0
              simp only [DX10_formula, DX10_formula_42, DX10_formula_60, DX10_formula_61, DX10_formula_119, DX10_formula_134, DX10_formula_138, DX10_formula_139, r_ck, r_0, r_1, r_2, r_3, r_4, r_5, r_6, r_7, r_8, r_9, r_10, r_11, r_12, r_13, r_14, r_15, r_16, r_17, r_18, r_19, r_20, r_21, r_22, r_23, r_24, r_25, r_26, r_27, r_28, r_29, r_30, r_31, r_32, r_33, r_34, r_35, r_36, r_37, rp_0, rp_1, rp_26, rp_28, rp_30, rp_33, rp_35, rp_37, Option.bind_some, bRT, bRW, bWW, bW, le0, ne10, if_true, if_false, not_true_eq_false, not_false_eq_true, uI_at, uA_1, uB_1, uG_1, uI_2, l0, l5, l1, l7, ii_eq, e_no hM' hn hi, tt, show ((-1 : Int32) ≤ 6 ∧ (6 : Int32) ≤ (7 : Int32)) = True from eq_true (by decide), e_no hM' hn hp, m_kind hM0 hn hi, m_kind hM0 hn hp]
              by_cases g3 : s.1 i 1 = 5
              · have g1 : ¬ s.1 p 1 = 0 := fun z => hg ⟨g3, z⟩
                simp only [g1, g3, Option.bind_some, bRT, bRW, bWW, bW, le0, ne10, if_true, if_false, not_true_eq_false, not_false_eq_true, uI_at, uA_1, uB_1, uG_1, uI_2, DX10_formula_152, r_ck, r_0, r_1, r_2, r_3, r_4, r_5, r_6, r_7, r_8, r_9, r_10, r_11, r_12, r_13, r_14, r_15, r_16, r_17, r_18, r_19, r_20, r_21, r_22, r_23, r_24, r_25, r_26, r_27, r_28, r_29, r_30, r_31, r_32, r_33, r_34, r_35, r_36, r_37, rp_0, rp_1, rp_26, rp_28, rp_30, rp_33, rp_35, rp_37, le2, uI_uI]; rfl
              · simp only [g3, Option.bind_some, bRT, bRW, bWW, bW, le0, ne10, if_true, if_false, not_true_eq_false, not_false_eq_true, uI_at, uA_1, uB_1, uG_1, uI_2, DX10_formula_152, r_ck, r_0, r_1, r_2, r_3, r_4, r_5, r_6, r_7, r_8, r_9, r_10, r_11, r_12, r_13, r_14, r_15, r_16, r_17, r_18, r_19, r_20, r_21, r_22, r_23, r_24, r_25, r_26, r_27, r_28, r_29, r_30, r_31, r_32, r_33, r_34, r_35, r_36, r_37, rp_0, rp_1, rp_26, rp_28, rp_30, rp_33, rp_35, rp_37, le2, uI_uI]; rfl
      · by_cases hg : s.1 i 1 = 5 ∧ (op = 7 ∨ op = -1)
        · refine op_form hS' hi hm e ek hf hg.1 (bo := 0) ?_ (Or.inl ⟨rfl, ht⟩) (fun z => absurd z ht) (fun z => absurd z h6) ?_ (fun σ' hM' => ?_)
          · rcases hg.2 with z | z
            · exact Or.inr ⟨7, by omega, z⟩
            · exact Or.inl z
          · simp only [hcl, DX1_mayWorkWith_51, o_ck, o_0, o_1, o_2, o_3, o_4, o_5, o_6, t_ck, t_0, v_ck, v_0, q_ck, q_0, q_1, q_2, q_3, q_4, wr_ck, wr_0, wr_1, wr_2, rd_ck, rd_0, rd_1, Option.bind_some, bRT, bRW, bWW, bW, le0, ne10, if_true, if_false, not_true_eq_false, not_false_eq_true, uI_at, uA_1, uB_1, uG_1, uI_2, h6]
            rcases hg.2 with z | z
            · rw [if_pos z]
            · rw [z]; rfl
          · have hM0 := hM'.thr 0
            have t7 : ((-1 : Int32) ≤ op ∧ op ≤ (7 : Int32)) = True := eq_true (by rcases hg.2 with z | z <;> rw [z] <;> decide)
            simp only [DX10_formula, DX10_formula_42, DX10_formula_60, DX10_formula_61, DX10_formula_119, DX10_formula_134, DX10_formula_138, DX10_formula_139, r_ck, r_0, r_1, r_2, r_3, r_4, r_5, r_6, r_7, r_8, r_9, r_10, r_11, r_12, r_13, r_14, r_15, r_16, r_17, r_18, r_19, r_20, r_21, r_22, r_23, r_24, r_25, r_26, r_27, r_28, r_29, r_30, r_31, r_32, r_33, r_34, r_35, r_36, r_37, rp_0, rp_1, rp_26, rp_28, rp_30, rp_33, rp_35, rp_37, Option.bind_some, bRT, bRW, bWW, bW, le0, ne10, if_true, if_false, not_true_eq_false, not_false_eq_true, uI_at, uA_1, uB_1, uG_1, uI_2, l0, l5, l1, l7, ii_eq, e_no hM' hn hi, tt, t7, h6, m_kind hM0 hn hi, hg.1]
        · refine Out.thr hS' 2 (by omega) 0 ?_ (fun σ' hM' => ?_)
          · simp only [DX9_formula, hcl, DX1_mayWorkWith_51, o_ck, o_0, o_1, o_2, o_3, o_4, o_5, o_6, t_ck, t_0, v_ck, v_0, q_ck, q_0, q_1, q_2, q_3, q_4, wr_ck, wr_0, wr_1, wr_2, rd_ck, rd_0, rd_1, Option.bind_some, bRT, bRW, bWW, bW, le0, ne10, if_true, if_false, not_true_eq_false, not_false_eq_true, uI_at, uA_1, uB_1, uG_1, uI_2, e_tm hC hi hm e, h6, c_1 hC hm4, ek]
            by_cases g1 : op = 7
            · have g3 : ¬ s.1 i 1 = 5 := fun z => hg ⟨z, Or.inl g1⟩
              simp only [g1, g3, Option.bind_some, bRT, bRW, bWW, bW, le0, ne10, if_true, if_false, not_true_eq_false, not_false_eq_true, uI_at, uA_1, uB_1, uG_1, uI_2]; rfl
            · by_cases g2 : op = -1
              · have g3 : ¬ s.1 i 1 = 5 := fun z => hg ⟨z, Or.inr g2⟩
                rw [if_neg g1, if_pos g2]
                simp only [g3, Option.bind_some, bRT, bRW, bWW, bW, le0, ne10, if_true, if_false, not_true_eq_false, not_false_eq_true, uI_at, uA_1, uB_1, uG_1, uI_2]; rfl
              · simp only [g1, g2, Option.bind_some, bRT, bRW, bWW, bW, le0, ne10, if_true, if_false, not_true_eq_false, not_false_eq_true, uI_at, uA_1, uB_1, uG_1, uI_2]; rfl
          · have hM0 := hM'.thr 0
            simp only [DX10_formula, DX10_formula_42, DX10_formula_60, DX10_formula_61, DX10_formula_119, DX10_formula_134, DX10_formula_138, DX10_formula_139, r_ck, r_0, r_1, r_2, r_3, r_4, r_5, r_6, r_7, r_8, r_9, r_10, r_11, r_12, r_13, r_14, r_15, r_16, r_17, r_18, r_19, r_20, r_21, r_22, r_23, r_24, r_25, r_26, r_27, r_28, r_29, r_30, r_31, r_32, r_33, r_34, r_35, r_36, r_37, rp_0, rp_1, rp_26, rp_28, rp_30, rp_33, rp_35, rp_37, Option.bind_some, bRT, bRW, bWW, bW, le0, ne10, if_true, if_false, not_true_eq_false, not_false_eq_true, uI_at, uA_1, uB_1, uG_1, uI_2, l0, l5, l1, l7, ii_eq, e_no hM' hn hi, tt, h6, m_kind hM0 hn hi]
            by_cases g3 : s.1 i 1 = 5
            · have t7 : ((-1 : Int32) ≤ op ∧ op ≤ (7 : Int32)) = False := eq_false (fun z => by
                have z1 := z.1
                have z2 := z.2
                have y1 : ¬ op.toInt = 6 := fun y => h6 (Int32.toInt_inj.mp y)
                have y2 : ¬ op.toInt = 7 := fun y => hg ⟨g3, Or.inl (Int32.toInt_inj.mp y)⟩
                have y3 : ¬ op.toInt = -1 := fun y => hg ⟨g3, Or.inr (Int32.toInt_inj.mp y)⟩
                have y4 : ¬ (0 ≤ op.toInt ∧ op.toInt ≤ 5) := fun y => ht ⟨Int32.le_iff_toInt_le.mpr y.1, Int32.le_iff_toInt_le.mpr y.2⟩
                rw [Int32.le_iff_toInt_le] at z1 z2
                rw [im1T] at z1
                rw [show (7 : Int32).toInt = 7 from rfl] at z2
                omega)
              simp only [g3, t7, Option.bind_some, bRT, bRW, bWW, bW, le0, ne10, if_true, if_false, not_true_eq_false, not_false_eq_true, uI_at, uA_1, uB_1, uG_1, uI_2, DX10_formula_152, r_ck, r_0, r_1, r_2, r_3, r_4, r_5, r_6, r_7, r_8, r_9, r_10, r_11, r_12, r_13, r_14, r_15, r_16, r_17, r_18, r_19, r_20, r_21, r_22, r_23, r_24, r_25, r_26, r_27, r_28, r_29, r_30, r_31, r_32, r_33, r_34, r_35, r_36, r_37, rp_0, rp_1, rp_26, rp_28, rp_30, rp_33, rp_35, rp_37, le2, uI_uI]; rfl
            · simp only [g3, Option.bind_some, bRT, bRW, bWW, bW, le0, ne10, if_true, if_false, not_true_eq_false, not_false_eq_true, uI_at, uA_1, uB_1, uG_1, uI_2, DX10_formula_152, r_ck, r_0, r_1, r_2, r_3, r_4, r_5, r_6, r_7, r_8, r_9, r_10, r_11, r_12, r_13, r_14, r_15, r_16, r_17, r_18, r_19, r_20, r_21, r_22, r_23, r_24, r_25, r_26, r_27, r_28, r_29, r_30, r_31, r_32, r_33, r_34, r_35, r_36, r_37, rp_0, rp_1, rp_26, rp_28, rp_30, rp_33, rp_35, rp_37, le2, uI_uI]; rfl
