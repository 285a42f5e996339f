/-! what is shown, in the reference -/
theorem RM.mp {σ : SG} {s : AS} (h : RM σ s) (x : Int32) : RM (mpush σ x) s := h.mapp [x]
theorem f_ps2 {N h : Nat} {s : AS} (hn : s.2.2.2 ≤ 40) {m : Nat} (hm : m < s.2.2.2) (hl : (s.2.2.1 m 0).length ≤ 30) : ∀ (w j : Nat) (σ : SG), (s.2.2.1 m 0).length - j < w → j ≤ (s.2.2.1 m 0).length → RM σ s → mok σ → mr σ + ((s.2.2.1 m 0).length - j) ≤ 64 → DX10_putSigns_2 N w (h + 275) (nI m) (nI j) (HH h σ) = some ((), HH h (mapp σ ((s.2.2.1 m 0).drop j))) := by
  intro w
  induction w with
  | zero => intro j σ hw; omega
  | succ w ih =>
    intro j σ hw hj hM hk hr
    simp only [DX10_putSigns_2, r_ck, r_0, r_1, r_2, r_3, r_4, r_5, r_6, r_7, r_8, r_9, r_10, r_11, r_12, r_13, r_14, r_15, r_16, r_17, r_18, r_19, r_20, r_21, r_22, r_23, r_24, r_25, r_26, r_27, r_28, r_29, r_30, r_31, r_32, r_33, r_34, r_35, r_36, r_37, rp_0, rp_1, rp_26, rp_28, rp_30, rp_33, rp_35, rp_37, Option.bind_some, bRT, bRW, bWW, bW, le0, ne10, if_true, if_false, not_true_eq_false, not_false_eq_true, uI_at, uA_1, uB_1, uG_1, uI_2, m_many hM hn hm]
    by_cases c : (s.2.2.1 m 0).length ≤ j
    · rw [if_pos (nI_le c (by omega)), List.drop_eq_nil_of_le c]
      rfl
    · have hlt : j < (s.2.2.1 m 0).length := by omega
      rw [if_neg (nI_ge hlt (by omega)), drop_cons hlt, n30, nI_add, m_sign hM hn hm hlt hl]
      simp only [Option.bind_some, bRT, bRW, bWW, bW, le0, ne10, if_true, if_false, not_true_eq_false, not_false_eq_true, uI_at, uA_1, uB_1, uG_1, uI_2]
      rw [e_put hk (by omega)]
      simp only [Option.bind_some, bRT, bRW, bWW, bW, le0, ne10, if_true, if_false, not_true_eq_false, not_false_eq_true, uI_at, uA_1, uB_1, uG_1, uI_2]
      rw [nI_1, ih (j + 1) _ (by omega) (by omega) (hM.mp _) (mpush_ok _ (by omega)) (by rw [mpush_mr (by omega)]; omega)]
      rfl
theorem f_putSigns {N h : Nat} (hN : 10000 ≤ N) {σ : SG} {s : AS} (hM : RM σ s) (hn : s.2.2.2 ≤ 40) {m : Nat} (hm : m < s.2.2.2) (hl : (s.2.2.1 m 0).length ≤ 30) (hk : mok σ) (hr : mr σ + 30 ≤ 64) : DX10_putSigns N (h + 275) (nI m) (HH h σ) = some ((), HH h (mapp σ (s.2.2.1 m 0))) := by
  unfold DX10_putSigns
  rw [r_ck]
  simp only [Option.bind_some, bRT, bRW, bWW, bW, le0, ne10, if_true, if_false, not_true_eq_false, not_false_eq_true, uI_at, uA_1, uB_1, uG_1, uI_2]
  have := f_ps2 (N := N) (h := h) hn hm hl N 0 σ (by omega) (by omega) hM hk (by omega)
  rw [nI_0, List.drop_zero] at this
  exact this
theorem mr0 (σ : SG) : mok (uI σ 275 28 0) ∧ mr (uI σ 275 28 0) = 0 := by
  have e : mr (uI σ 275 28 0) = 0 := by
    unfold mr
    rw [uI_at]
    rfl
  refine ⟨⟨?_, by omega⟩, e⟩
  rw [e, uI_at]
  rfl
theorem f_show {N h : Nat} (hN : 10000 ≤ N) {σ : SG} {s : AS} (hM' : RM σ s) (hI : Inv s) {m : Nat} (hm : m < s.2.2.2) (hl : (s.2.2.1 m 0).length ≤ 30 ∧ (s.2.2.1 m 1).length ≤ 12) : DX10_show N (h + 275) (nI m) (HH h σ) = some ((), HH h (mapp (uI σ 275 28 0) (showL s m))) := by
  have hn := hI.n40
  have hM := hM'.rsz 0
  obtain ⟨hk, h0⟩ := mr0 σ
  have hps := f_putSigns (h := h) hN hM hn hm hl.1 hk (by omega)
  simp only [DX10_show, DX10_show_49, DX10_show_94, r_ck, r_0, r_1, r_2, r_3, r_4, r_5, r_6, r_7, r_8, r_9, r_10, r_11, r_12, r_13, r_14, r_15, r_16, r_17, r_18, r_19, r_20, r_21, r_22, r_23, r_24, r_25, r_26, r_27, r_28, r_29, r_30, r_31, r_32, r_33, r_34, r_35, r_36, r_37, rp_0, rp_1, rp_26, rp_28, rp_30, rp_33, rp_35, rp_37, Option.bind_some, bRT, bRW, bWW, bW, le0, ne10, if_true, if_false, not_true_eq_false, not_false_eq_true, uI_at, uA_1, uB_1, uG_1, uI_2, m_kind hM hn hm, m_many hM hn hm, f_isSigned hM hn hm, f_isPicked hM hn hm, ite01, hps]
  unfold showL
  rcases hI.k6 hm with k | k | k | k | k | k
  · simp [k, mapp]
  · simp [k]
  · rw [k]
    simp only [show ((2 : Int32) = 5) = False from eq_false (by decide), show ((2 : Int32) = 1) = False from eq_false (by decide), show ((2 : Int32) = 3) = False from eq_false (by decide), show ((2 : Int32) = 4) = False from eq_false (by decide), or_self, m_pick hM hn hm (Or.inl k), Option.bind_some, bRT, bRW, bWW, bW, le0, ne10, if_true, if_false, not_true_eq_false, not_false_eq_true, uI_at, uA_1, uB_1, uG_1, uI_2]
    by_cases z : s.1 m 10 = 1
    · rw [if_pos z, if_pos z, e_put hk (by omega)]
      simp only [Option.bind_some, bRT, bRW, bWW, bW, le0, ne10, if_true, if_false, not_true_eq_false, not_false_eq_true, uI_at, uA_1, uB_1, uG_1, uI_2]
      rfl
    · rw [if_neg z, if_neg z]
      rfl
  · have hp := (hI.V hm).2.2.2.2.2.1 (Or.inl k)
    rw [k]
    simp only [show ((3 : Int32) = 5) = False from eq_false (by decide), show ((3 : Int32) = 1) = False from eq_false (by decide), show ((3 : Int32) = 2) = False from eq_false (by decide), show ((3 : Int32) = 4) = False from eq_false (by decide), or_self, or_false, m_pick hM hn hm (Or.inr (Or.inl k)), Option.bind_some, bRT, bRW, bWW, bW, le0, ne10, if_true, if_false, not_true_eq_false, not_false_eq_true, uI_at, uA_1, uB_1, uG_1, uI_2]
    rcases hp with z | ⟨c, hc, z⟩
    · rw [z]
      simp only [ltm0, Option.bind_some, bRT, bRW, bWW, bW, le0, ne10, if_true, if_false, not_true_eq_false, not_false_eq_true, uI_at, uA_1, uB_1, uG_1, uI_2]
      rfl
    · obtain ⟨d, hd, e2⟩ := (hI.V hm).2.2.2.2.2.2 _ (getD_mem hc)
      rw [z, if_neg (nI_pos (by omega)), if_neg (nI_nm1 (by omega)), nI_clamp (by omega), n12, nI_add, m_code hM hn hm hc hl.2]
      simp only [Option.bind_some, bRT, bRW, bWW, bW, le0, ne10, if_true, if_false, not_true_eq_false, not_false_eq_true, uI_at, uA_1, uB_1, uG_1, uI_2]
      have hnl := numL_f (n := d) (k := 5) (by omega) (by omega)
      rw [e2, nI_l (by omega), nI_clamp (by omega), e_putNumber hN (by omega) hk (by rw [show (!decide ((0 : Int32) = 0)) = false from rfl]; omega)]
      rfl
  · have hp := (hI.V hm).2.2.2.2.2.1 (Or.inr k)
    rw [k]
    simp only [show ((4 : Int32) = 5) = False from eq_false (by decide), show ((4 : Int32) = 1) = False from eq_false (by decide), show ((4 : Int32) = 2) = False from eq_false (by decide), show ((4 : Int32) = 3) = False from eq_false (by decide), or_self, false_or, m_pick hM hn hm (Or.inr (Or.inr k)), Option.bind_some, bRT, bRW, bWW, bW, le0, ne10, if_true, if_false, not_true_eq_false, not_false_eq_true, uI_at, uA_1, uB_1, uG_1, uI_2]
    rcases hp with z | ⟨c, hc, z⟩
    · rw [z]
      simp only [ltm0, Option.bind_some, bRT, bRW, bWW, bW, le0, ne10, if_true, if_false, not_true_eq_false, not_false_eq_true, uI_at, uA_1, uB_1, uG_1, uI_2]
      rfl
    · obtain ⟨d, hd, e2⟩ := (hI.V hm).2.2.2.2.2.2 _ (getD_mem hc)
      rw [z, if_neg (nI_pos (by omega)), if_neg (nI_nm1 (by omega)), nI_clamp (by omega), n12, nI_add, m_code hM hn hm hc hl.2]
      simp only [Option.bind_some, bRT, bRW, bWW, bW, le0, ne10, if_true, if_false, not_true_eq_false, not_false_eq_true, uI_at, uA_1, uB_1, uG_1, uI_2]
      have hnl := numL_f (n := d) (k := 5) (by omega) (by omega)
      rw [e2, nI_l (by omega), nI_clamp (by omega), e_putNumber hN (by omega) hk (by rw [show (!decide ((0 : Int32) = 0)) = false from rfl]; omega)]
      rfl
  · rw [k]
    simp only [show ((5 : Int32) = 1) = False from eq_false (by decide), or_true, Option.bind_some, bRT, bRW, bWW, bW, le0, ne10, if_true, if_false, not_true_eq_false, not_false_eq_true, uI_at, uA_1, uB_1, uG_1, uI_2, f_amount hN hM hn hm hl.1 (by rw [k]; decide)]
    by_cases c : (s.2.2.1 m 0).length = 0
    · rw [if_pos (by rw [c]; decide), if_pos c]
    · rw [if_neg (nI_nle (by omega) (by omega)), if_neg c]
      cases hv : amt (s.2.2.1 m 0) with
      | none => simp only [encM, if_true]
      | some v =>
        obtain ⟨d, hd, e⟩ := (hI.V hm).2.2.1
        simp only [encM, encM_n (amt_rng hv), if_false]
        rw [f_putRounded hN hM hn hm hk h0 (amt_rng hv) hd e, e, nI_clamp (by omega)]
/-! shown -/
theorem mlist_0 (σ : SG) : mlist (uI σ 275 28 0) = [] := by
  unfold mlist
  rw [(mr0 σ).2]
  rfl
theorem mlist_get {σ : SG} {q : Nat} (h : q < mr σ) : σ.2.2.1 300 q = (mlist σ).getD q 0 := by
  unfold mlist
  rw [List.getD_eq_getElem?_getD, List.getElem?_map, List.getElem?_range h]
  rfl
theorem RC.shown {σ : SG} {s : AS} (hC : RC σ s) (l : List Int32) : RC (rapp (uI σ 244 1 0) 244 l) s := by
  have hb : sbut [244, 245] σ (rapp (uI σ 244 1 0) 244 l) := (sbut.uI (by simp)).tr (rapp_but 244 l _)
  exact hC.work (hb.wk (by simp)) (rapp_ok l (rclear_ok hC.view)) (hC.res.ag (hb.ag (by simp))) (hC.upw.ag (hb.ag (by simp)))
theorem shown_list {σ : SG} {l : List Int32} (hl : l.length ≤ 30) : rlist (rapp (uI σ 244 1 0) 244 l) 244 = l := by
  rw [rapp_list l (by rw [rclear_rc]; show 0 + l.length ≤ 30; omega), rclear_list]
  rfl
theorem shown_fc {σ : SG} {l : List Int32} : fc σ (rapp (uI σ 244 1 0) 244 l) := fc.but (((sbut.uI (by simp)).tr (rapp_but 244 l _)) : sbut [244, 245] σ _) (by simp)
theorem mapp_fm {σ : SG} {l : List Int32} : fm σ (mapp (uI σ 275 28 0) l) := fm.I.tr (fm.but (mapp_but l _) (by simp))
theorem op_shown {N h : Nat} (hN : 10000 ≤ N) {σ : SG} {s : AS} (hS : St σ s) (x q : Int32) : Out h σ s ex1 (DX9_shown N h x q (HH h σ)) (fun σ' => DX10_shown N (h + 275) x q (HH h σ')) := by
  have hS' := hS
  obtain ⟨hC, hM, hI⟩ := hS
  have hn := hI.n40
  rcases ixc x hn with hx | ⟨i, hi, rfl⟩
  · refine Out.thr hS' 1 (by omega) 0 ?_ (fun σ' hM' => ?_)
    · simp only [DX9_shown, o_ck, o_0, o_1, o_2, o_3, o_4, o_5, o_6, t_ck, t_0, v_ck, v_0, q_ck, q_0, q_1, q_2, q_3, q_4, wr_ck, wr_0, wr_1, wr_2, rd_ck, rd_0, rd_1, Option.bind_some, bRT, bRW, bWW, bW, le0, ne10, if_true, if_false, not_true_eq_false, not_false_eq_true, uI_at, uA_1, uB_1, uG_1, uI_2, e_tm0 hC hx]
      rfl
    · simp only [DX10_shown, DX10_shown_14, r_ck, r_0, r_1, r_2, r_3, r_4, r_5, r_6, r_7, r_8, r_9, r_10, r_11, r_12, r_13, r_14, r_15, r_16, r_17, r_18, r_19, r_20, r_21, r_22, r_23, r_24, r_25, r_26, r_27, r_28, r_29, r_30, r_31, r_32, r_33, r_34, r_35, r_36, r_37, rp_0, rp_1, rp_26, rp_28, rp_30, rp_33, rp_35, rp_37, Option.bind_some, bRT, bRW, bWW, bW, le0, ne10, if_true, if_false, not_true_eq_false, not_false_eq_true, uI_at, uA_1, uB_1, uG_1, uI_2, e_no0 hM' hx, le1]
      rfl
  · obtain ⟨m, hm, e, ek⟩ := hI.f hi
    have hm4 : m < 40 := by omega
    have hl := hC.len hm4
    have hsl := showL_len hC hI hm
    have hC1 := hC.shown (showL s m)
    refine ⟨s, rapp (uI σ 244 1 0) 244 (showL s m), .inl (if ¬ q < 0 ∧ ¬ nI (showL s m).length ≤ q then (showL s m).getD q.toNatClampNeg 0 else -1), ?_, hC1, hI, shown_fc, fun σ' hM' => ⟨_, mapp (uI (uI σ' 275 0 0) 275 28 0) (showL s m), ?_, ((hM'.thr 0).rsz 0).mapp _, fm.I.tr mapp_fm, Or.inl ⟨rfl, ?_⟩⟩⟩
    · have hrc : rc (rapp (uI σ 244 1 0) 244 (showL s m)) 244 = (showL s m).length := by rw [← rlist_len, shown_list hsl]
      simp only [DX9_shown, o_ck, o_0, o_1, o_2, o_3, o_4, o_5, o_6, t_ck, t_0, v_ck, v_0, q_ck, q_0, q_1, q_2, q_3, q_4, wr_ck, wr_0, wr_1, wr_2, rd_ck, rd_0, rd_1, Option.bind_some, bRT, bRW, bWW, bW, le0, ne10, if_true, if_false, not_true_eq_false, not_false_eq_true, uI_at, uA_1, uB_1, uG_1, uI_2, e_tm hC hi hm e, e_show hN hC hI hm, e_get hC1.view q, hrc]
      by_cases c : ¬ q < 0 ∧ ¬ nI (showL s m).length ≤ q
      · rw [if_pos c, if_pos c]
        obtain ⟨j, hj, ej⟩ := has_ix c (show (showL s m).length ≤ 8000 by omega)
        rw [ej, nI_clamp (by omega)]
        have := rlist_get (σ := rapp (uI σ 244 1 0) 244 (showL s m)) (r := 244) (j := j) (by rw [hrc]; exact hj)
        rw [shown_list hsl] at this
        rw [List.getD_eq_getElem?_getD, this]
        rfl
      · rw [if_neg c, if_neg c]
    · have hM0 := hM'.thr 0
      obtain ⟨k0, r0⟩ := mr0 (uI σ' 275 0 0)
      obtain ⟨k1, r1⟩ := mstep k0 (showL s m) (by omega)
      rw [r0, Nat.zero_add] at r1
      have hI28 : (mapp (uI (uI σ' 275 0 0) 275 28 0) (showL s m)).1 275 28 = nI (showL s m).length := by rw [k1.1, r1]
      simp only [DX10_shown, DX10_shown_14, r_ck, r_0, r_1, r_2, r_3, r_4, r_5, r_6, r_7, r_8, r_9, r_10, r_11, r_12, r_13, r_14, r_15, r_16, r_17, r_18, r_19, r_20, r_21, r_22, r_23, r_24, r_25, r_26, r_27, r_28, r_29, r_30, r_31, r_32, r_33, r_34, r_35, r_36, r_37, rp_0, rp_1, rp_26, rp_28, rp_30, rp_33, rp_35, rp_37, Option.bind_some, bRT, bRW, bWW, bW, le0, ne10, if_true, if_false, not_true_eq_false, not_false_eq_true, uI_at, uA_1, uB_1, uG_1, uI_2, e_no hM' hn hi, m_fst hM0 hn hi, e, f_show hN hM0 hI hm hl, hI28]
      by_cases c0 : q < 0
      · rw [if_pos c0, if_neg (fun z => z.1 c0)]
      · rw [if_neg c0]
        by_cases c1 : nI (showL s m).length ≤ q
        · rw [if_pos c1, if_neg (fun z => z.2 c1)]
        · rw [if_neg c1, if_pos ⟨c0, c1⟩]
          obtain ⟨j, hj, ej⟩ := has_ix ⟨c0, c1⟩ (show (showL s m).length ≤ 8000 by omega)
          rw [ej, nI_clamp (by omega), aN0 (k := 300) rfl (show j < ln 300 from show j < 64 by omega), mlist_get (by rw [r1]; exact hj), mapp_list _ (by rw [r0]; omega), mlist_0]
          rfl
    · rw [mapp_I (by omega), uI_ne _ _ _ _ (by omega), uI_at]
