/-! option -/
theorem uI_uI (σ : SG) (k j : Nat) (x y : Int32) : uI (uI σ k j x) k j y = uI σ k j y := by
  unfold uI
  congr 1
  funext k' j'
  by_cases q : k' = k ∧ j' = j <;> simp [q]
theorem nI_nm1 {j : Nat} (h : j < 2 ^ 31) : ¬ nI j = -1 := fun e => by
  have := congrArg Int32.toInt e
  rw [nIT h, im1T] at this
  omega
theorem fnd_none (x : Int32) : ∀ (l : List Int32) (j : Nat), j + l.length < 2 ^ 31 → (fnd x l j = -1 ↔ x ∉ l)
  | [], j, _ => by simp [fnd]
  | y :: ys, j, h => by
    simp only [List.length_cons] at h
    unfold fnd
    by_cases e : y = x
    · rw [if_pos e]
      simp [e, nI_nm1 (show j < 2 ^ 31 by omega)]
    · rw [if_neg e, fnd_none x ys (j + 1) (by omega)]
      simp [Ne.symm e, eq_comm, e]
theorem f_opt63 {N h : Nat} {σ : SG} {s : AS} (hM : RM σ s) (hn : s.2.2.2 ≤ 40) {m : Nat} (hm : m < s.2.2.2) (hl : (s.2.2.1 m 1).length ≤ 12) (c : Int32) : ∀ (w j : Nat) (g : Bool), j ≤ (s.2.2.1 m 1).length → (s.2.2.1 m 1).length - j < w → DX10_option_63 N w (h + 275) c (nI m) (if g = true then 1 else 0) (nI j) (HH h σ) = (if g = true ∧ c ∉ (s.2.2.1 m 1).drop j then (if (s.2.2.1 m 1).length = 12 then DX10_option_134 N (h + 275) c (nI m) (h + 275) 3 (HH h σ) else DX10_option_134 N (h + 275) c (nI m) (h + 275) 0 (HH h σ)) else DX10_option_134 N (h + 275) c (nI m) (h + 275) 2 (HH h σ)) := by
  intro w
  induction w with
  | zero => intro j g _ hw; omega
  | succ w ih =>
    intro j g hj hw
    simp only [DX10_option_63, DX10_option_99, DX10_option_100, r_ck, r_0, r_1, r_2, r_3, r_4, r_5, r_6, r_7, r_8, r_9, r_10, r_11, r_12, r_13, r_14, r_15, r_16, r_17, r_18, r_19, r_20, r_21, r_22, r_23, r_24, r_25, r_26, r_27, r_28, r_29, r_30, r_31, r_32, r_33, r_34, r_35, r_36, r_37, rp_0, rp_1, rp_26, rp_28, rp_30, rp_33, rp_35, rp_37, Option.bind_some, bRT, bRW, bWW, bW, le0, ne10, if_true, if_false, not_true_eq_false, not_false_eq_true, uI_at, uA_1, uB_1, uG_1, uI_2, m_opts hM hn hm]
    by_cases c1 : (s.2.2.1 m 1).length ≤ j
    · rw [if_pos (nI_le c1 (by omega)), List.drop_eq_nil_of_le c1]
      cases g with
      | false => simp
      | true =>
        simp only [Option.bind_some, bRT, bRW, bWW, bW, le0, ne10, if_true, if_false, not_true_eq_false, not_false_eq_true, uI_at, uA_1, uB_1, uG_1, uI_2, true_and, List.not_mem_nil, not_false_eq_true]
        by_cases c2 : (s.2.2.1 m 1).length = 12
        · rw [if_pos (by rw [c2]; rfl), if_pos c2]
        · rw [if_neg (show ¬ nI (s.2.2.1 m 1).length = (12 : Int32) from fun q => c2 ((nI_eq (by omega) (show 12 < 2 ^ 31 by omega)).mp q)), if_neg c2]
    · have hlt : j < (s.2.2.1 m 1).length := by omega
      rw [if_neg (nI_ge hlt (by omega))]
      have hd : (s.2.2.1 m 1).drop j = (s.2.2.1 m 1).getD j 0 :: (s.2.2.1 m 1).drop (j + 1) := by
        rw [List.drop_eq_getElem_cons hlt, List.getD_eq_getElem?_getD, List.getElem?_eq_getElem hlt]
        rfl
      rw [hd]
      cases g with
      | false =>
        have := ih (j + 1) false (by omega) (by omega)
        simp only [Bool.false_eq_true, if_false, false_and] at this ⊢
        simp only [if_true, nI_1, this]
      | true =>
        simp only [Option.bind_some, bRT, bRW, bWW, bW, le0, ne10, if_true, if_false, not_true_eq_false, not_false_eq_true, uI_at, uA_1, uB_1, uG_1, uI_2, n12, nI_add, m_code hM hn hm hlt hl, true_and]
        by_cases e : (s.2.2.1 m 1).getD j 0 = c
        · have := ih (j + 1) false (by omega) (by omega)
          simp only [Bool.false_eq_true, if_false, false_and] at this
          rw [if_pos e, nI_1, this, if_neg (by rw [e]; exact fun q => q (List.mem_cons_self ..))]
        · have := ih (j + 1) true (by omega) (by omega)
          simp only [if_true, true_and] at this
          rw [if_neg e, nI_1, this]
          simp only [List.mem_cons, Ne.symm e, eq_comm, false_or]
theorem Inv.cd {s : AS} {m : Nat} {c : Int32} (h : Inv s) (hm : m < s.2.2.2) (hc : ∃ d, d ≤ 99999 ∧ c = nI d) : Inv (sQ s m 1 (s.2.2.1 m 1 ++ [c])) := by
  refine h.one hm rfl (fun q j' hj' => rfl) (fun q hq _ => ⟨rfl, rfl, by funext j'; simp [sQ, hq]⟩) ?_ (h.O hm) (h.side hm)
  obtain ⟨a, b, d, e, f, g, i⟩ := h.V hm
  refine ⟨a, b, d, by simpa [sQ] using e, f, fun k => ?_, fun x hx => ?_⟩
  · rcases g k with q | ⟨y, hy, q⟩
    · exact Or.inl q
    · exact Or.inr ⟨y, by simp [sQ]; omega, q⟩
  · simp [sQ] at hx
    rcases hx with hx | hx
    · exact i x hx
    · rw [hx]; exact hc
theorem op_option {N h : Nat} (hN : 10000 ≤ N) {σ : SG} {s : AS} (hS : St σ s) (x c : Int32) : Out h σ s ex3 (DX9_option N h x c (HH h σ)) (fun σ' => DX10_option N (h + 275) x c (HH h σ')) := by
  obtain ⟨hC, hM, hI⟩ := hS
  have hn := hI.n40
  rcases ixc x hn with hx | ⟨i, hi, rfl⟩
  · refine Out.thr ⟨hC, hM, hI⟩ 1 (by omega) 0 ?_ (fun σ' hM' => ?_)
    · simp only [DX9_option, o_ck, o_0, o_1, o_2, o_3, o_4, o_5, o_6, t_ck, t_0, v_ck, v_0, q_ck, q_0, q_1, q_2, q_3, q_4, wr_ck, wr_0, wr_1, wr_2, rd_ck, rd_0, rd_1, Option.bind_some, bRT, bRW, bWW, bW, le0, ne10, if_true, if_false, not_true_eq_false, not_false_eq_true, uI_at, uA_1, uB_1, uG_1, uI_2, e_tm0 hC hx]
      rfl
    · simp only [DX10_option, DX10_option_14, r_ck, r_0, r_1, r_2, r_3, r_4, r_5, r_6, r_7, r_8, r_9, r_10, r_11, r_12, r_13, r_14, r_15, r_16, r_17, r_18, r_19, r_20, r_21, r_22, r_23, r_24, r_25, r_26, r_27, r_28, r_29, r_30, r_31, r_32, r_33, r_34, r_35, r_36, r_37, rp_0, rp_1, rp_26, rp_28, rp_30, rp_33, rp_35, rp_37, Option.bind_some, bRT, bRW, bWW, bW, le0, ne10, if_true, if_false, not_true_eq_false, not_false_eq_true, uI_at, uA_1, uB_1, uG_1, uI_2, e_no0 hM' hx, le1]
      rfl
  · obtain ⟨m, hm, e, ek⟩ := hI.f hi
    have hm4 : m < 40 := by omega
    have hl := hC.len hm4
    have hlen : ∀ q, q < 40 → (s.2.2.1 q 0).length ≤ 30 ∧ (s.2.2.1 q 1).length ≤ 12 := fun q hq => hC.len hq
    have hR : ∀ σ', RM σ' s → DX10_option N (h + 275) (nI i) c (HH h σ') = (if ((s.1 m 1 = 3 ∨ s.1 m 1 = 4) ∧ (0 : Int32) ≤ c ∧ c ≤ (99999 : Int32)) ∧ c ∉ s.2.2.1 m 1 then (if (s.2.2.1 m 1).length = 12 then DX10_option_134 N (h + 275) c (nI m) (h + 275) 3 (HH h (uI σ' 275 0 0)) else DX10_option_134 N (h + 275) c (nI m) (h + 275) 0 (HH h (uI σ' 275 0 0))) else DX10_option_134 N (h + 275) c (nI m) (h + 275) 2 (HH h (uI σ' 275 0 0))) := fun σ' hM' => by
      have hM0 := hM'.thr 0
      have hg := fun g => f_opt63 (N := N) (h := h) hM0 hn hm hl.2 c N 0 g (by omega) (by omega)
      have h1 := hg true
      have h0 := hg false
      simp only [if_true, true_and, List.drop_zero, Bool.false_eq_true, if_false, false_and, nI_0] at h0 h1
      simp only [DX10_option, DX10_option_14, DX10_option_57, DX10_option_58, r_ck, r_0, r_1, r_2, r_3, r_4, r_5, r_6, r_7, r_8, r_9, r_10, r_11, r_12, r_13, r_14, r_15, r_16, r_17, r_18, r_19, r_20, r_21, r_22, r_23, r_24, r_25, r_26, r_27, r_28, r_29, r_30, r_31, r_32, r_33, r_34, r_35, r_36, r_37, rp_0, rp_1, rp_26, rp_28, rp_30, rp_33, rp_35, rp_37, Option.bind_some, bRT, bRW, bWW, bW, le0, ne10, if_true, if_false, not_true_eq_false, not_false_eq_true, uI_at, uA_1, uB_1, uG_1, uI_2, e_no hM' hn hi, m_fst hM0 hn hi, e, f_isPicked hM0 hn hm, ite01, show (0 : Int64) = (0 : Int32).toInt64 from rfl, show (99999 : Int64) = (99999 : Int32).toInt64 from rfl, ii_eq, h0, h1]
      by_cases a : s.1 m 1 = 3 ∨ s.1 m 1 = 4
      · by_cases b : (0 : Int32) ≤ c ∧ c ≤ (99999 : Int32)
        · simp only [a, b, and_self, not_true_eq_false, if_false, true_and]
        · simp only [a, b, not_true_eq_false, not_false_eq_true, if_false, if_true, and_false, false_and]
      · simp only [a, not_false_eq_true, if_true, false_and, if_false]
    have hfn := fnd_none c (s.2.2.1 m 1) 0 (by omega)
    by_cases hg : ((s.1 m 1 = 3 ∨ s.1 m 1 = 4) ∧ (0 : Int32) ≤ c ∧ c ≤ (99999 : Int32)) ∧ c ∉ s.2.2.1 m 1
    · have c0 : ¬ c < 0 := Int32.not_lt.mpr hg.1.2.1
      have c1 : ¬ (99999 : Int32) < c := Int32.not_lt.mpr hg.1.2.2
      have hcls : DX9_option N h (nI i) c (HH h σ) = bW (DX5_add N (h + (3 + 6 * m + 4)) c (HH h σ)) fun x10 f12 => if x10 = 0 then some (.inr "java/lang/UnsupportedOperationException", f12) else (gR f12 (h + (3 + 6 * m)) 1 9).bind fun x13 => (DX5_count N x13 f12).bind fun x14 => some (.inl (x14 - (1 : Int32)), f12) := by
        simp only [DX9_option, o_ck, o_0, o_1, o_2, o_3, o_4, o_5, o_6, t_ck, t_0, v_ck, v_0, q_ck, q_0, q_1, q_2, q_3, q_4, wr_ck, wr_0, wr_1, wr_2, rd_ck, rd_0, rd_1, Option.bind_some, bRW, e_tm hC hi hm e, e_hasOptions hC hm4, ite01, hg.1.1, not_true_eq_false, if_false, c0, c1, g9 hm4, e_findL (hC.cd hm4) c (show 8001 ≤ N by omega), hfn, hg.2, not_false_eq_true, if_true, ne10]
      have hrc := (hC.cd hm4).rc
      by_cases h12 : (s.2.2.1 m 1).length = 12
      · refine Out.thr ⟨hC, hM, hI⟩ 3 (by omega) 0 ?_ (fun σ' hM' => ?_)
        · rw [hcls, e_add (hC.cd hm4).1, if_neg (by rw [hrc, ln_C hm4]; omega)]
          unfold rpush
          rw [if_neg (by rw [hrc, ln_C hm4]; omega)]
          rfl
        · refine (hR σ' hM').trans ?_
          rw [if_pos hg, if_pos h12]
          simp only [DX10_option_134, r_ck, r_0, r_1, r_2, r_3, r_4, r_5, r_6, r_7, r_8, r_9, r_10, r_11, r_12, r_13, r_14, r_15, r_16, r_17, r_18, r_19, r_20, r_21, r_22, r_23, r_24, r_25, r_26, r_27, r_28, r_29, r_30, r_31, r_32, r_33, r_34, r_35, r_36, r_37, rp_0, rp_1, rp_26, rp_28, rp_30, rp_33, rp_35, rp_37, Option.bind_some, bRT, bRW, bWW, bW, le0, ne10, if_true, if_false, not_true_eq_false, not_false_eq_true, uI_at, uA_1, uB_1, uG_1, uI_2, le3, uI_uI]
          rfl
      · have hlt : rc σ (3 + 6 * m + 4) < ln (3 + 6 * m + 4 + 1) := by rw [hrc, ln_C hm4]; omega
        have hR2 := hC.O hm4 (rpush_but σ (3 + 6 * m + 4) c) (rpush_ok c (hC.cd hm4).1) (l := s.2.2.1 m 1 ++ [c]) (by rw [rpush_list hlt, (hC.cd hm4).2])
        refine ⟨sQ s m 1 (s.2.2.1 m 1 ++ [c]), rpush σ (3 + 6 * m + 4) c, .inl (nI (s.2.2.1 m 1).length), ?_, hR2, hI.cd hm ?_, fc.but (rpush_but _ _ _) (by simp; omega), fun σ' hM' => ⟨nI (s.2.2.1 m 1).length, uA (uA (uI σ' 275 0 0) 287 (12 * m + (s.2.2.1 m 1).length) c) 288 m (nI ((s.2.2.1 m 1).length + 1)), ?_, ?_, (fm.I.tr (fm.A (by omega))).tr (fm.A (by omega)), Or.inl ⟨rfl, by simp only [Option.bind_some, bRT, bRW, bWW, bW, le0, ne10, if_true, if_false, not_true_eq_false, not_false_eq_true, uI_at, uA_1, uB_1, uG_1, uI_2]⟩⟩⟩
        · have hcn := e_cntL (N := N) (h := h) (hR2.cd hm4)
          have hq : (sQ s m 1 (s.2.2.1 m 1 ++ [c])).2.2.1 m 1 = s.2.2.1 m 1 ++ [c] := by simp [sQ]
          rw [hq, List.length_append] at hcn
          rw [hcls, e_add (hC.cd hm4).1, if_pos hlt]
          simp only [bW, ne10, if_false, g9 hm4, Option.bind_some, hcn]
          rw [show (s.2.2.1 m 1).length + [c].length = (s.2.2.1 m 1).length + 1 from rfl, nI_pred]
        · obtain ⟨d, hd, e⟩ := nI_of2 (M := 99999) (n := 99999) rfl c0 hg.1.2.2
          exact ⟨d, hd, e⟩
        · refine (hR σ' hM').trans ?_
          rw [if_pos hg, if_neg h12]
          have hM0 := hM'.thr 0
          simp only [DX10_option_134, r_ck, r_0, r_1, r_2, r_3, r_4, r_5, r_6, r_7, r_8, r_9, r_10, r_11, r_12, r_13, r_14, r_15, r_16, r_17, r_18, r_19, r_20, r_21, r_22, r_23, r_24, r_25, r_26, r_27, r_28, r_29, r_30, r_31, r_32, r_33, r_34, r_35, r_36, r_37, rp_0, rp_1, rp_26, rp_28, rp_30, rp_33, rp_35, rp_37, Option.bind_some, bRT, bRW, bWW, bW, le0, ne10, if_true, if_false, not_true_eq_false, not_false_eq_true, uI_at, uA_1, uB_1, uG_1, uI_2, m_opts hM0 hn hm, n12, nI_add, sN0 (k := 287) rfl (show 12 * m + (s.2.2.1 m 1).length < ln 287 from show _ < 480 by omega), aN0 (σ := uA (uI σ' 275 0 0) 287 (12 * m + (s.2.2.1 m 1).length) c) (k := 288) rfl (show m < ln 288 from hm4), uI_uI]
          have e5 : (uA (uI σ' 275 0 0) 287 (12 * m + (s.2.2.1 m 1).length) c).2.2.1 288 m = nI (s.2.2.1 m 1).length := by
            rw [uA_ne _ _ _ _ (by omega)]
            exact ((hM'.thr 0).W hm4).2.2.2.1
          rw [e5, nI_1]
          simp only [sN0 (k := 288) rfl (show m < ln 288 from hm4), r_ck, r_0, r_1, r_2, r_3, r_4, r_5, r_6, r_7, r_8, r_9, r_10, r_11, r_12, r_13, r_14, r_15, r_16, r_17, r_18, r_19, r_20, r_21, r_22, r_23, r_24, r_25, r_26, r_27, r_28, r_29, r_30, r_31, r_32, r_33, r_34, r_35, r_36, r_37, rp_0, rp_1, rp_26, rp_28, rp_30, rp_33, rp_35, rp_37, Option.bind_some, bRT, bRW, bWW, bW, le0, ne10, if_true, if_false, not_true_eq_false, not_false_eq_true, uI_at, uA_1, uB_1, uG_1, uI_2, aN0 (k := 288) rfl (show m < ln 288 from hm4), uA_at, nI_pred]
        · refine (hM'.thr 0).codes (τ := uA (uA (uI σ' 275 0 0) 287 (12 * m + (s.2.2.1 m 1).length) c) 288 m (nI ((s.2.2.1 m 1).length + 1))) (l := s.2.2.1 m 1 ++ [c]) hlen hn hm (fun _ _ _ => rfl) rfl (fun k _ _ _ _ _ _ _ _ => ?_) (fun c hc => ?_) (fun c hc => ?_) ?_ (fun j hj => ?_) (fun k _ => ?_)
          · funext j; rw [uA_ne _ _ _ _ (by omega), uA_ne _ _ _ _ (by omega)]
          · rw [uA_ne _ _ _ _ (by omega), uA_ne _ _ _ _ (by omega)]
          · rw [uA_ne _ _ _ _ (by omega), uA_ne _ _ _ _ (by omega)]
          · rw [uA_at, List.length_append]; rfl
          · rw [uA_ne _ _ _ _ (by omega)]
            rw [List.length_append] at hj
            by_cases ej : j = (s.2.2.1 m 1).length
            · rw [ej, uA_at, List.getD_eq_getElem?_getD, List.getElem?_append_right (Nat.le_refl _)]
              simp
            · have hj2 : j < (s.2.2.1 m 1).length := by simp at hj; omega
              rw [uA_ne _ _ _ _ (by omega), List.getD_eq_getElem?_getD, List.getElem?_append_left hj2, ← List.getD_eq_getElem?_getD]
              exact ((hM'.thr 0).W hm4).2.2.2.2 j hj2
          · funext j; rw [uA_ne _ _ _ _ (by omega), uA_ne _ _ _ _ (by omega)]
    · refine Out.thr ⟨hC, hM, hI⟩ 2 (by omega) 0 ?_ (fun σ' hM' => ?_)
      · simp only [DX9_option, o_ck, o_0, o_1, o_2, o_3, o_4, o_5, o_6, t_ck, t_0, v_ck, v_0, q_ck, q_0, q_1, q_2, q_3, q_4, wr_ck, wr_0, wr_1, wr_2, rd_ck, rd_0, rd_1, Option.bind_some, bRW, e_tm hC hi hm e, e_hasOptions hC hm4, ite01, g9 hm4, e_findL (hC.cd hm4) c (show 8001 ≤ N by omega)]
        by_cases a : s.1 m 1 = 3 ∨ s.1 m 1 = 4
        · rw [if_neg (fun q => q a)]
          by_cases c0 : c < 0
          · rw [if_pos c0]; rfl
          · by_cases c1 : (99999 : Int32) < c
            · rw [if_neg c0, if_pos c1]; rfl
            · rw [if_neg c0, if_neg c1, if_neg (fun q => hg ⟨⟨a, Int32.not_lt.mp c0, Int32.not_lt.mp c1⟩, hfn.mp q⟩)]; rfl
        · rw [if_pos a]; rfl
      · refine (hR σ' hM').trans ?_
        rw [if_neg hg]
        simp only [DX10_option_134, r_ck, r_0, r_1, r_2, r_3, r_4, r_5, r_6, r_7, r_8, r_9, r_10, r_11, r_12, r_13, r_14, r_15, r_16, r_17, r_18, r_19, r_20, r_21, r_22, r_23, r_24, r_25, r_26, r_27, r_28, r_29, r_30, r_31, r_32, r_33, r_34, r_35, r_36, r_37, rp_0, rp_1, rp_26, rp_28, rp_30, rp_33, rp_35, rp_37, Option.bind_some, bRT, bRW, bWW, bW, le0, ne10, if_true, if_false, not_true_eq_false, not_false_eq_true, uI_at, uA_1, uB_1, uG_1, uI_2, le2, uI_uI]
        rfl
