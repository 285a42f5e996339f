/-! write, in the reference -/
theorem RM.dpush {σ : SG} {s : AS} {l : List Int32} (h : RM σ (sQ s 40 1 l)) (x : Int32) : RM (uI (uA σ 304 l.length x) 275 35 (nI (l.length + 1))) (sQ s 40 1 (l ++ [x])) := by
  have hI : ∀ j, j ≠ 35 → (uI (uA σ 304 l.length x) 275 35 (nI (l.length + 1))).1 275 j = σ.1 275 j := fun j hj => by rw [uI_ne _ _ _ _ (by omega)]; rfl
  have hA : ∀ k, k ≠ 304 → (uI (uA σ 304 l.length x) 275 35 (nI (l.length + 1))).2.2.1 k = σ.2.2.1 k := fun k hk => by
    funext c
    exact uA_ne _ _ _ _ (by omega)
  have e1 : ∀ q, q < 40 → (sQ s 40 1 (l ++ [x])).2.2.1 q = (sQ s 40 1 l).2.2.1 q := fun q hq => by rw [sQ_o (by omega), sQ_o (by omega)]
  refine ⟨by rw [hI 1 (by omega)]; exact h.nn, fun i hi => (h.F hi).cong (fun k _ _ _ _ _ _ _ => by rw [hA k (by omega)]) ⟨rfl, rfl⟩ rfl rfl (fun _ => ⟨rfl, rfl⟩), fun i hi => (h.W hi).cong (fun k _ _ _ _ _ => by rw [hA k (by omega)]) (fun j _ => by rw [hA _ (by omega)]) (fun j _ => by rw [hA _ (by omega)]) (fun j _ => by rw [hA _ (by omega)]) rfl (e1 i hi), ⟨?_, ⟨?_, fun q hq => ?_⟩, ?_⟩, ?_, ?_⟩
  · exact h.fai.cong (hI _ (by omega)) (hA _ (by omega)) (by simp [sQ])
  · rw [sQ_at, uI_at, List.length_append]
    rfl
  · rw [sQ_at] at hq ⊢
    rw [List.length_append] at hq
    rw [getD_app (by simp at hq; omega)]
    show (uA σ 304 l.length x).2.2.1 304 q = _
    by_cases z : q = l.length
    · rw [if_pos z, z, uA_at]
    · rw [if_neg z, uA_ne _ _ _ _ (by omega)]
      have := h.dat.2 q (by rw [sQ_at]; simp at hq; omega)
      rw [sQ_at] at this
      exact this
  · exact h.inp.cong (hI _ (by omega)) (hA _ (by omega)) (by simp [sQ])
  · exact h.made.cong (hI _ (by omega)) (hA _ (by omega)) (by rw [sQ_o (by omega), sQ_o (by omega)])
  · exact h.kept.cong (hI _ (by omega)) (hA _ (by omega)) (by rw [sQ_o (by omega), sQ_o (by omega)])
theorem f_out2 {N h : Nat} {s : AS} {r : List Int32} (hr : r.length ≤ 64) : ∀ (w j : Nat) (σ : SG) (l : List Int32), r.length - j < w → j ≤ r.length → RM σ (sQ s 40 1 l) → mok σ → mlist σ = r → l.length + (r.length - j) ≤ 8000 → ∃ τ, DX10_out_2 N w (h + 275) (nI j) (HH h σ) = some ((), HH h τ) ∧ RM τ (sQ s 40 1 (l ++ r.drop j)) ∧ mok τ ∧ mr τ = 0 ∧ fm σ τ ∧ τ.1 275 0 = σ.1 275 0 := by
  intro w
  induction w with
  | zero => intro j σ l hw; omega
  | succ w ih =>
    intro j σ l hw hj hM hk hm hcap
    have hmr : mr σ = r.length := by
      rw [← hm]
      unfold mlist
      simp
    have h28 : σ.1 275 28 = nI r.length := by rw [hk.1, hmr]
    have h35 : σ.1 275 35 = nI l.length := by
      have := hM.dat.1
      rw [sQ_at] at this
      exact this
    simp only [DX10_out_2, r_ck, r_0, r_1, r_2, r_3, r_4, r_5, r_6, r_7, r_8, r_9, r_10, r_11, r_12, r_13, r_14, r_15, r_16, r_17, r_18, r_19, r_20, r_21, r_22, r_23, r_24, r_25, r_26, r_27, r_28, r_29, r_30, r_31, r_32, r_33, r_34, r_35, r_36, r_37, rp_0, rp_1, rp_26, rp_28, rp_30, rp_33, rp_35, rp_37, Option.bind_some, bRT, bRW, bWW, bW, le0, ne10, if_true, if_false, not_true_eq_false, not_false_eq_true, uI_at, uA_1, uB_1, uG_1, uI_2, h28, h35]
    by_cases z : r.length ≤ j
    · obtain ⟨k0, r0⟩ := mr0 σ
      refine ⟨uI σ 275 28 0, by rw [if_pos (nI_le z (by omega))], ?_, k0, r0, fm.I, uI_ne _ _ _ _ (by omega)⟩
      rw [List.drop_eq_nil_of_le z, List.append_nil]
      exact hM.rsz 0
    · have hlt : j < r.length := by omega
      have hx : σ.2.2.1 300 j = r.getD j 0 := by rw [mlist_get (by rw [hmr]; exact hlt), hm]
      have hM2 := hM.dpush (r.getD j 0)
      have hk2 : mr (uI (uA σ 304 l.length (r.getD j 0)) 275 35 (nI (l.length + 1))) = mr σ := by
        unfold mr
        rw [uI_ne _ _ _ _ (by omega)]
        rfl
      have hmok2 : mok (uI (uA σ 304 l.length (r.getD j 0)) 275 35 (nI (l.length + 1))) := by
        refine ⟨?_, by rw [hk2]; exact hk.2⟩
        rw [hk2, uI_ne _ _ _ _ (by omega)]
        exact hk.1
      have hml2 : mlist (uI (uA σ 304 l.length (r.getD j 0)) 275 35 (nI (l.length + 1))) = r := by
        refine Eq.trans ?_ hm
        unfold mlist
        rw [hk2]
        apply List.map_congr_left
        intro q _
        exact uA_ne _ _ _ _ (by omega)
      obtain ⟨τ, t1, t2, t3, t4, t5, t6⟩ := ih (j + 1) _ (l ++ [r.getD j 0]) (by omega) (by omega) hM2 hmok2 hml2 (by simp; omega)
      refine ⟨τ, ?_, ?_, t3, t4, ((fm.A (by omega)).tr fm.I).tr t5, by rw [t6, uI_ne _ _ _ _ (by omega)]; rfl⟩
      · have e8 : (uA σ 304 l.length (r.getD j 0)).1 275 35 = nI l.length := h35
        rw [if_neg (nI_ge hlt (by omega))]
        simp only [aN0 (k := 300) rfl (show j < ln 300 from show j < 64 by omega), hx, Option.bind_some, bRT, bRW, bWW, bW, le0, ne10, if_true, if_false, not_true_eq_false, not_false_eq_true, uI_at, uA_1, uB_1, uG_1, uI_2, sN0 (k := 304) rfl (show l.length < ln 304 from show l.length < 8000 by omega), h35, r_ck, r_0, r_1, r_2, r_3, r_4, r_5, r_6, r_7, r_8, r_9, r_10, r_11, r_12, r_13, r_14, r_15, r_16, r_17, r_18, r_19, r_20, r_21, r_22, r_23, r_24, r_25, r_26, r_27, r_28, r_29, r_30, r_31, r_32, r_33, r_34, r_35, r_36, r_37, rp_0, rp_1, rp_26, rp_28, rp_30, rp_33, rp_35, rp_37, nI_1]
        exact t1
      · rw [List.append_assoc] at t2
        rw [drop_cons hlt]
        exact t2
theorem f_out {N h : Nat} (hN : 10000 ≤ N) {s : AS} {r l : List Int32} {σ : SG} (hM : RM σ (sQ s 40 1 l)) (hk : mok σ) (hm : mlist σ = r) (hcap : l.length + r.length ≤ 8000) : ∃ τ, DX10_out N (h + 275) (HH h σ) = some ((), HH h τ) ∧ RM τ (sQ s 40 1 (l ++ r)) ∧ mok τ ∧ mr τ = 0 ∧ fm σ τ ∧ τ.1 275 0 = σ.1 275 0 := by
  have hr : r.length ≤ 64 := by
    rw [← hm]
    unfold mlist
    simp
    exact hk.2
  obtain ⟨τ, t1, t2⟩ := f_out2 (N := N) (h := h) hr N 0 σ l (by omega) (by omega) hM hk hm (by omega)
  refine ⟨τ, ?_, t2⟩
  rw [nI_0] at t1
  unfold DX10_out
  rw [r_ck]
  exact t1
theorem mlist_nil {σ : SG} (h : mr σ = 0) : mlist σ = [] := by
  unfold mlist
  rw [h]
  rfl
theorem f_no35 {N h : Nat} {σ : SG} {s : AS} (hM : RM σ s) (hI : Inv s) {m : Nat} (hm : m < s.2.2.2) (kk : Nat → Int32 → Int32 → HF → Option (Unit × HF)) {k : Nat} (hk : k < dpt s m) : ∀ (w t : Nat), t ≤ k → k - t < w → ∃ w', DX10_nameOut_35 N kk w (h + 275) (nI m) (nI k) (nI (anc s m t)) (nI t) (HH h σ) = DX10_nameOut_35 N kk (w' + 1) (h + 275) (nI m) (nI k) (nI (anc s m k)) (nI k) (HH h σ) := by
  have hn := hI.n40
  obtain ⟨d1, d2, d3, d4, d5⟩ := hI.DP hm
  intro w
  induction w with
  | zero => intro t _ hw; omega
  | succ w ih =>
    intro t ht hw
    by_cases z : t = k
    · subst z
      exact ⟨w, rfl⟩
    · obtain ⟨w', e⟩ := ih (t + 1) (by omega) (by omega)
      refine ⟨w', ?_⟩
      rw [DX10_nameOut_35, if_neg (nI_ge (by omega) (by omega))]
      simp only [r_ck, r_0, r_1, r_2, r_3, r_4, r_5, r_6, r_7, r_8, r_9, r_10, r_11, r_12, r_13, r_14, r_15, r_16, r_17, r_18, r_19, r_20, r_21, r_22, r_23, r_24, r_25, r_26, r_27, r_28, r_29, r_30, r_31, r_32, r_33, r_34, r_35, r_36, r_37, rp_0, rp_1, rp_26, rp_28, rp_30, rp_33, rp_35, rp_37, Option.bind_some, bRT, bRW, bWW, bW, le0, ne10, if_true, if_false, not_true_eq_false, not_false_eq_true, uI_at, uA_1, uB_1, uG_1, uI_2, m_par hM hn (d1 t (by omega)).1, (d2 t (by omega)).1, nI_1]
      exact e
theorem f_no25 {N h : Nat} (hN : 10000 ≤ N) {s : AS} (hI : Inv s) {m : Nat} (hm : m < s.2.2.2) : ∀ (j w : Nat) (σ : SG) (l : List Int32), j ≤ dpt s m → j < w → RM σ (sQ s 40 1 l) → mok σ → mr σ = 0 → l.length + (upL (nmf s m) j).length ≤ 8000 → ∃ τ, DX10_nameOut_25 N w (h + 275) (nI m) (nI j - 1) (HH h σ) = some ((), HH h τ) ∧ RM τ (sQ s 40 1 (l ++ upL (nmf s m) j)) ∧ mok τ ∧ mr τ = 0 ∧ fm σ τ ∧ τ.1 275 0 = σ.1 275 0 := by
  have hn := hI.n40
  obtain ⟨d1, d2, d3, d4, d5⟩ := hI.DP hm
  intro j
  induction j with
  | zero =>
    intro w σ l _ hw hM hk hr _
    obtain ⟨w', rfl⟩ : ∃ w', w = w' + 1 := ⟨w - 1, by omega⟩
    refine ⟨σ, ?_, ?_, hk, hr, fm.rf, rfl⟩
    · rw [DX10_nameOut_25, if_pos (by rw [nI_0]; decide)]
    · show RM σ (sQ s 40 1 (l ++ []))
      rw [List.append_nil]
      exact hM
  | succ j ih =>
    intro w σ l hj hw hM hk hr hcap
    obtain ⟨w', rfl⟩ : ∃ w', w = w' + 1 := ⟨w - 1, by omega⟩
    have hI' := hI.q40 1 l
    have eanc : anc (sQ s 40 1 l) m = anc s m := by funext k; exact anc_q (s := s) (t := sQ s 40 1 l) rfl m k
    have edp : dpt (sQ s 40 1 l) m = dpt s m := dpt_q rfl m
    have hnm := nmf_le hI hm (show j < dpt s m by omega)
    have hnl := numL_f (n := nmf s m j) (k := 3) (by omega) (by omega)
    obtain ⟨w2, e35⟩ := f_no35 (N := N) (h := h) hM hI' (m := m) hm (DX10_nameOut_25 N w') (k := j) (by rw [edp]; omega) N 0 (by omega) (by omega)
    rw [eanc, nI_0, show anc s m 0 = m from rfl] at e35
    have hnum := e_putNumber (N := N) (h := h) (m := nmf s m j) (cm := 0) (σ := σ) hN (by omega) hk (by rw [show (!decide ((0 : Int32) = 0)) = false from rfl]; omega)
    rw [show (!decide ((0 : Int32) = 0)) = false from rfl] at hnum
    obtain ⟨k1, r1⟩ := mstep hk (numL (nmf s m j) false) (by omega)
    have hup : upL (nmf s m) (j + 1) = numL (nmf s m j) false ++ ((if 0 < j then [46] else []) ++ upL (nmf s m) j) := rfl
    rw [hup] at hcap
    simp only [List.length_append] at hcap
    have fin : ∀ (σ1 : SG) (x : List Int32), σ1 = mapp σ x → x = numL (nmf s m j) false ++ (if 0 < j then [46] else []) → x.length ≤ 10 → (DX10_nameOut_35 N (DX10_nameOut_25 N w') (w2 + 1) (h + 275) (nI m) (nI j) (nI (anc s m j)) (nI j) (HH h σ) = DX10_nameOut_79 N (DX10_nameOut_25 N w') (h + 275) (nI m) (nI j) (HH h σ1)) → ∃ τ, DX10_nameOut_25 N (w' + 1) (h + 275) (nI m) (nI (j + 1) - 1) (HH h σ) = some ((), HH h τ) ∧ RM τ (sQ s 40 1 (l ++ upL (nmf s m) (j + 1))) ∧ mok τ ∧ mr τ = 0 ∧ fm σ τ ∧ τ.1 275 0 = σ.1 275 0 := fun σ1 x hσ1 hx hx10 he => by
      have hM1 : RM σ1 (sQ s 40 1 l) := by rw [hσ1]; exact hM.mapp x
      obtain ⟨k2, r2⟩ := mstep hk x (by omega)
      have hml : mlist σ1 = x := by rw [hσ1, mapp_list x (by omega), mlist_nil hr]; rfl
      have hxl : x.length = (numL (nmf s m j) false).length + (if 0 < j then [46] else ([] : List Int32)).length := by rw [hx, List.length_append]
      obtain ⟨σ2, o1, o2, o3, o4, o5, o6⟩ := f_out (N := N) (h := h) hN hM1 (by rw [hσ1]; exact k2) hml (by omega)
      obtain ⟨τ, t1, t2, t3, t4, t5, t6⟩ := ih w' σ2 (l ++ x) (by omega) (by omega) o2 o3 o4 (by rw [List.length_append]; omega)
      refine ⟨τ, ?_, ?_, t3, t4, ((by rw [hσ1]; exact fm.but (mapp_but x σ) (by simp) : fm σ σ1).tr o5).tr t5, ?_⟩
      · rw [DX10_nameOut_25, nI_b1, if_neg (nI_pos (by omega)), e35, he]
        simp only [DX10_nameOut_79, o1, Option.bind_some, bRT, bRW, bWW, bW, le0, ne10, if_true, if_false, not_true_eq_false, not_false_eq_true, uI_at, uA_1, uB_1, uG_1, uI_2, nI_m1]
        exact t1
      · rw [hup]
        have : l ++ x ++ upL (nmf s m) j = l ++ (numL (nmf s m j) false ++ ((if 0 < j then [46] else []) ++ upL (nmf s m) j)) := by
          rw [hx]
          simp [List.append_assoc]
        rw [← this]
        exact t2
      · rw [t6, o6, hσ1, mapp_I (by omega)]
    have hname : aI (HH h σ) (h + 278) 0 (nI (anc s m j)) = some (nI (nmf s m j)) := by
      have := m_name (h := h) hM hn (d1 j (by omega)).1
      rw [this]
      exact congrArg some hnm.2
    by_cases z : 0 < j
    · refine fin (mpush (mapp σ (numL (nmf s m j) false)) 46) (numL (nmf s m j) false ++ [46]) (by rw [mapp_app]; rfl) (by rw [if_pos z]) (by simp; omega) ?_
      rw [DX10_nameOut_35, if_pos (nI_le (Nat.le_refl j) (by omega))]
      simp only [r_ck, r_0, r_1, r_2, r_3, r_4, r_5, r_6, r_7, r_8, r_9, r_10, r_11, r_12, r_13, r_14, r_15, r_16, r_17, r_18, r_19, r_20, r_21, r_22, r_23, r_24, r_25, r_26, r_27, r_28, r_29, r_30, r_31, r_32, r_33, r_34, r_35, r_36, r_37, rp_0, rp_1, rp_26, rp_28, rp_30, rp_33, rp_35, rp_37, Option.bind_some, bRT, bRW, bWW, bW, le0, ne10, if_true, if_false, not_true_eq_false, not_false_eq_true, uI_at, uA_1, uB_1, uG_1, uI_2, hname, nI_l (show nmf s m j < 2 ^ 31 by omega), hnum]
      rw [if_neg (nI_nle (by omega) (by omega)), e_put k1 (by omega)]
    · refine fin (mapp σ (numL (nmf s m j) false)) (numL (nmf s m j) false) rfl (by rw [if_neg z, List.append_nil]) (by omega) ?_
      rw [DX10_nameOut_35, if_pos (nI_le (Nat.le_refl j) (by omega))]
      simp only [r_ck, r_0, r_1, r_2, r_3, r_4, r_5, r_6, r_7, r_8, r_9, r_10, r_11, r_12, r_13, r_14, r_15, r_16, r_17, r_18, r_19, r_20, r_21, r_22, r_23, r_24, r_25, r_26, r_27, r_28, r_29, r_30, r_31, r_32, r_33, r_34, r_35, r_36, r_37, rp_0, rp_1, rp_26, rp_28, rp_30, rp_33, rp_35, rp_37, Option.bind_some, bRT, bRW, bWW, bW, le0, ne10, if_true, if_false, not_true_eq_false, not_false_eq_true, uI_at, uA_1, uB_1, uG_1, uI_2, hname, nI_l (show nmf s m j < 2 ^ 31 by omega), hnum]
      rw [if_pos (by rw [show j = 0 by omega, nI_0]; decide)]
theorem f_no4 {N h : Nat} {σ : SG} {s : AS} (hM : RM σ s) (hI : Inv s) {m : Nat} (hm : m < s.2.2.2) : ∀ (w k : Nat) (v : Int32), dpt s m - k < w → k ≤ dpt s m → (k < dpt s m → v = nI (anc s m k)) → (k = dpt s m → v = -1) → DX10_nameOut_4 N w (h + 275) (nI m) (nI k) v (HH h σ) = DX10_nameOut_25 N N (h + 275) (nI m) (nI (dpt s m) - 1) (HH h σ) := by
  have hn := hI.n40
  obtain ⟨d1, d2, d3, d4, d5⟩ := hI.DP hm
  intro w
  induction w with
  | zero => intro k v hw; omega
  | succ w ih =>
    intro k v hw hk h1 h2
    rw [DX10_nameOut_4]
    by_cases z : k = dpt s m
    · rw [h2 z, if_pos (by decide), z]
    · have hlt : k < dpt s m := by omega
      have ha := (d1 k hlt).1
      rw [h1 hlt, if_neg (nI_pos (by omega))]
      simp only [r_ck, r_0, r_1, r_2, r_3, r_4, r_5, r_6, r_7, r_8, r_9, r_10, r_11, r_12, r_13, r_14, r_15, r_16, r_17, r_18, r_19, r_20, r_21, r_22, r_23, r_24, r_25, r_26, r_27, r_28, r_29, r_30, r_31, r_32, r_33, r_34, r_35, r_36, r_37, rp_0, rp_1, rp_26, rp_28, rp_30, rp_33, rp_35, rp_37, Option.bind_some, bRT, bRW, bWW, bW, le0, ne10, if_true, if_false, not_true_eq_false, not_false_eq_true, uI_at, uA_1, uB_1, uG_1, uI_2, m_par hM hn ha, nI_1]
      exact ih (k + 1) _ (by omega) (by omega) (fun q => (d2 k q).1) (fun q => by rw [show k = dpt s m - 1 by omega]; exact d4)
theorem f_nameOut {N h : Nat} (hN : 10000 ≤ N) {σ : SG} {s : AS} {l : List Int32} (hM : RM σ (sQ s 40 1 l)) (hI : Inv s) {m : Nat} (hm : m < s.2.2.2) (hk : mok σ) (hr : mr σ = 0) (hcap : l.length + (upL (nmf s m) (dpt s m)).length ≤ 8000) : ∃ τ, DX10_nameOut N (h + 275) (nI m) (HH h σ) = some ((), HH h τ) ∧ RM τ (sQ s 40 1 (l ++ upL (nmf s m) (dpt s m))) ∧ mok τ ∧ mr τ = 0 ∧ fm σ τ ∧ τ.1 275 0 = σ.1 275 0 := by
  have hn := hI.n40
  have hI' := hI.q40 1 l
  have edp : dpt (sQ s 40 1 l) m = dpt s m := dpt_q rfl m
  obtain ⟨d1, d2, d3, d4, d5⟩ := hI.DP hm
  obtain ⟨τ, t1, t2⟩ := f_no25 (N := N) (h := h) hN hI hm (dpt s m) N σ l (Nat.le_refl _) (by omega) hM hk hr hcap
  refine ⟨τ, ?_, t2⟩
  have := f_no4 (N := N) (h := h) hM hI' (m := m) hm N 0 (nI m) (by rw [edp]; omega) (by omega) (fun _ => rfl) (fun q => by rw [edp] at q; omega)
  rw [edp, nI_0] at this
  simp only [DX10_nameOut, r_ck, Option.bind_some, bRT, bRW, bWW, bW, le0, ne10, if_true, if_false, not_true_eq_false, not_false_eq_true, uI_at, uA_1, uB_1, uG_1, uI_2, this, t1]
theorem f_putValue {N h : Nat} (hN : 10000 ≤ N) {σ : SG} {s : AS} (hM : RM σ s) (hI : Inv s) {m : Nat} (hm : m < s.2.2.2) (hl : (s.2.2.1 m 0).length ≤ 30 ∧ (s.2.2.1 m 1).length ≤ 12) (hk0 : ¬ s.1 m 1 = 0) (hk : mok σ) (hr : mr σ + 30 ≤ 64) : DX10_putValue N (h + 275) (nI m) (HH h σ) = some ((), HH h (mapp σ (cnt s m))) := by
  have hn := hI.n40
  simp only [DX10_putValue, r_ck, r_0, r_1, r_2, r_3, r_4, r_5, r_6, r_7, r_8, r_9, r_10, r_11, r_12, r_13, r_14, r_15, r_16, r_17, r_18, r_19, r_20, r_21, r_22, r_23, r_24, r_25, r_26, r_27, r_28, r_29, r_30, r_31, r_32, r_33, r_34, r_35, r_36, r_37, rp_0, rp_1, rp_26, rp_28, rp_30, rp_33, rp_35, rp_37, Option.bind_some, bRT, bRW, bWW, bW, le0, ne10, if_true, if_false, not_true_eq_false, not_false_eq_true, uI_at, uA_1, uB_1, uG_1, uI_2, f_isSigned hM hn hm, ite01, m_kind hM hn hm, f_putSigns hN hM hn hm hl.1 hk hr]
  unfold cnt
  by_cases a : s.1 m 1 = 1 ∨ s.1 m 1 = 5
  · rw [if_neg (fun q => q a), if_pos a]
  · rw [if_pos a, if_neg a]
    by_cases b : s.1 m 1 = 2
    · rw [if_pos b, if_pos b, m_pick hM hn hm (Or.inl b)]
      simp only [Option.bind_some, bRT, bRW, bWW, bW, le0, ne10, if_true, if_false, not_true_eq_false, not_false_eq_true, uI_at, uA_1, uB_1, uG_1, uI_2]
      rw [e_put hk (by omega)]
      rfl
    · rw [if_neg b, if_neg b]
      have hk : s.1 m 1 = 3 ∨ s.1 m 1 = 4 := by
        rcases hI.k6 hm with k | k | k | k | k | k
        · exact absurd k hk0
        · exact absurd (Or.inl k) a
        · exact absurd k b
        · exact Or.inl k
        · exact Or.inr k
        · exact absurd (Or.inr k) a
      rw [m_pick hM hn hm (Or.inr hk)]
      simp only [Option.bind_some, bRT, bRW, bWW, bW, le0, ne10, if_true, if_false, not_true_eq_false, not_false_eq_true, uI_at, uA_1, uB_1, uG_1, uI_2]
      rcases (hI.V hm).2.2.2.2.2.1 hk with z | ⟨c, hc, z⟩
      · rw [z]
        simp only [ltm0, Option.bind_some, bRT, bRW, bWW, bW, le0, ne10, if_true, if_false, not_true_eq_false, not_false_eq_true, uI_at, uA_1, uB_1, uG_1, uI_2]
        rfl
      · obtain ⟨d, hd, e2⟩ := (hI.V hm).2.2.2.2.2.2 _ (getD_mem hc)
        rw [z, if_neg (nI_pos (by omega)), if_neg (nI_nm1 (by omega)), nI_clamp (by omega), n12, nI_add, m_code hM hn hm hc hl.2]
        simp only [Option.bind_some, bRT, bRW, bWW, bW, le0, ne10, if_true, if_false, not_true_eq_false, not_false_eq_true, uI_at, uA_1, uB_1, uG_1, uI_2]
        have hnl := numL_f (n := d) (k := 5) (by omega) (by omega)
        rw [e2, nI_l (by omega), nI_clamp (by omega), e_putNumber hN (by omega) (by assumption) (by rw [show (!decide ((0 : Int32) = 0)) = false from rfl]; omega)]
        rfl
theorem f_isMaster {N h : Nat} {σ : SG} {s : AS} (hM : RM σ s) (hn : s.2.2.2 ≤ 40) {m : Nat} (hm : m < s.2.2.2) : DX10_isMaster N (h + 275) (nI m) (HH h σ) = some (if mst s m then 1 else 0) := by
  simp only [DX10_isMaster, r_ck, r_0, r_1, r_2, r_3, r_4, r_5, r_6, r_7, r_8, r_9, r_10, r_11, r_12, r_13, r_14, r_15, r_16, r_17, r_18, r_19, r_20, r_21, r_22, r_23, r_24, r_25, r_26, r_27, r_28, r_29, r_30, r_31, r_32, r_33, r_34, r_35, r_36, r_37, rp_0, rp_1, rp_26, rp_28, rp_30, rp_33, rp_35, rp_37, Option.bind_some, bRT, bRW, bWW, bW, le0, ne10, if_true, if_false, not_true_eq_false, not_false_eq_true, uI_at, uA_1, uB_1, uG_1, uI_2, m_fst hM hn hm, m_kind hM hn hm]
  by_cases a : s.1 m 1 = 0 <;> by_cases b : s.1 m 4 = nI m <;> simp [mst, a, b]
theorem f_wr12 {N h : Nat} (hN : 10000 ≤ N) {s : AS} (hI : Inv s) (hlen : ∀ q, q < 40 → (s.2.2.1 q 0).length ≤ 30 ∧ (s.2.2.1 q 1).length ≤ 12) : ∀ (w j : Nat) (σ : SG), s.2.2.2 - j < w → j ≤ s.2.2.2 → RM σ (sQ s 40 1 (datL s j)) → ∃ τ, DX10_write_12 N w (h + 275) (nI j) (HH h σ) = some (nI (datL s s.2.2.2).length, HH h τ) ∧ RM τ (sQ s 40 1 (datL s s.2.2.2)) ∧ fm σ τ ∧ τ.1 275 0 = σ.1 275 0 := by
  have hn := hI.n40
  have htot := datL_le hI hlen
  intro w
  induction w with
  | zero => intro j σ hw; omega
  | succ w ih =>
    intro j σ hw hj hM
    have hnn : σ.1 275 1 = nI s.2.2.2 := hM.nn
    have h35 : σ.1 275 35 = nI (datL s j).length := by
      have := hM.dat.1
      rw [sQ_at] at this
      exact this
    rw [DX10_write_12]
    simp only [r_ck, r_0, r_1, r_2, r_3, r_4, r_5, r_6, r_7, r_8, r_9, r_10, r_11, r_12, r_13, r_14, r_15, r_16, r_17, r_18, r_19, r_20, r_21, r_22, r_23, r_24, r_25, r_26, r_27, r_28, r_29, r_30, r_31, r_32, r_33, r_34, r_35, r_36, r_37, rp_0, rp_1, rp_26, rp_28, rp_30, rp_33, rp_35, rp_37, Option.bind_some, bRT, bRW, bWW, bW, le0, ne10, if_true, if_false, not_true_eq_false, not_false_eq_true, uI_at, uA_1, uB_1, uG_1, uI_2, hnn]
    by_cases z : s.2.2.2 ≤ j
    · have e : j = s.2.2.2 := by omega
      refine ⟨σ, ?_, by rw [← e]; exact hM, fm.rf, rfl⟩
      rw [if_pos (nI_le z (by omega)), h35, e]
    · have hlt : j < s.2.2.2 := by omega
      have hj4 : j < 40 := by omega
      have hmono := datL_mono s (show j + 1 ≤ s.2.2.2 by omega)
      have hmst : DX10_isMaster N (h + 275) (nI j) (HH h σ) = some (if mst s j then 1 else 0) := f_isMaster (s := sQ s 40 1 (datL s j)) hM hn hlt
      have hdat : datL s (j + 1) = datL s j ++ (if mst s j then line s j else []) := rfl
      by_cases c : mst s j
      · rw [if_pos c] at hdat
        rw [hdat] at hmono
        unfold line at hmono
        simp only [List.length_append, List.length_cons, List.length_nil] at hmono
        obtain ⟨k0, r0⟩ := mr0 σ
        obtain ⟨τ1, a1, a2, a3, a4, a5, a6⟩ := f_nameOut (N := N) (h := h) hN (hM.rsz 0) hI hlt k0 r0 (by omega)
        have b1 := e_put (N := N) (h := h) a3 (by omega) 61
        have k1 := mpush_ok (σ := τ1) 61 (by omega)
        have r1 := mpush_mr (σ := τ1) (x := 61) (by omega)
        have hM1 := a2.mp 61
        have hI1 := hI.q40 1 (datL s j ++ upL (nmf s j) (dpt s j))
        have hcl := cnt_len hI hlt (hlen j hj4) c.1
        have b2 := f_putValue (N := N) (h := h) hN hM1 hI1 (m := j) hlt (by rw [sQ_o (by omega)]; exact hlen j hj4) c.1 k1 (by omega)
        rw [cnt_q hj4] at b2
        obtain ⟨k2, r2⟩ := mstep k1 (cnt s j) (by omega)
        have b3 := e_put (N := N) (h := h) k2 (by omega) 10
        have k3 := mpush_ok (σ := mapp (mpush τ1 61) (cnt s j)) 10 (by omega)
        have hM3 := (hM1.mapp (cnt s j)).mp 10
        have hml : mlist (mpush (mapp (mpush τ1 61) (cnt s j)) 10) = [61] ++ (cnt s j ++ [10]) := by
          rw [mpush_list (by omega), mapp_list _ (by omega), mpush_list (by omega), mlist_nil a4]
          simp
        obtain ⟨τ2, o1, o2, o3, o4, o5, o6⟩ := f_out (N := N) (h := h) hN hM3 k3 hml (by simp; omega)
        have hl7 : datL s j ++ upL (nmf s j) (dpt s j) ++ ([61] ++ (cnt s j ++ [10])) = datL s (j + 1) := by
          rw [hdat]
          unfold line
          simp [List.append_assoc]
        rw [hl7] at o2
        obtain ⟨τ, t1, t2, t3, t4⟩ := ih (j + 1) τ2 (by omega) (by omega) o2
        refine ⟨τ, ?_, t2, ((((fm.I.tr a5).tr (fm.but (mpush_but τ1 61) (by simp))).tr (fm.but (mapp_but (cnt s j) _) (by simp))).tr (fm.but (mpush_but _ 10) (by simp))).tr (o5.tr t3), ?_⟩
        · rw [if_neg (nI_ge hlt (by omega)), hmst, if_pos c]
          simp only [Option.bind_some, bRT, bRW, bWW, bW, le0, ne10, if_true, if_false, not_true_eq_false, not_false_eq_true, uI_at, uA_1, uB_1, uG_1, uI_2, a1, b1, b2, b3, o1, DX10_write_59, nI_1]
          exact t1
        · have e1 : ∀ (υ : SG) (x : Int32), (mpush υ x).1 275 0 = υ.1 275 0 := fun υ x => mapp_I (by omega) [x] υ
          rw [t4, o6, e1, mapp_I (by omega), e1, a6, uI_ne _ _ _ _ (by omega)]
      · rw [if_neg c, List.append_nil] at hdat
        obtain ⟨τ, t1, t2, t3, t4⟩ := ih (j + 1) σ (by omega) (by omega) (by rw [hdat]; exact hM)
        refine ⟨τ, ?_, t2, t3, t4⟩
        rw [if_neg (nI_ge hlt (by omega)), hmst, if_neg c]
        simp only [Option.bind_some, bRT, bRW, bWW, bW, le0, ne10, if_true, if_false, not_true_eq_false, not_false_eq_true, uI_at, uA_1, uB_1, uG_1, uI_2, DX10_write_59, nI_1]
        exact t1
theorem RM.dclear {σ : SG} {s : AS} (h : RM σ s) : RM (uI σ 275 35 0) (sQ s 40 1 []) := by
  have hI : ∀ j, j ≠ 35 → (uI σ 275 35 0).1 275 j = σ.1 275 j := fun j hj => uI_ne _ _ _ _ (by omega)
  refine ⟨by rw [hI 1 (by omega)]; exact h.nn, fun i hi => h.F hi, fun i hi => (h.W hi).cong (fun _ _ _ _ _ _ => rfl) (fun _ _ => rfl) (fun _ _ => rfl) (fun _ _ => rfl) rfl (sQ_o (by omega)), ⟨?_, ⟨?_, fun q hq => ?_⟩, ?_⟩, ?_, ?_⟩
  · exact h.fai.cong (hI _ (by omega)) rfl (by simp [sQ])
  · rw [sQ_at, uI_at]; rfl
  · rw [sQ_at] at hq; exact absurd hq (by simp)
  · exact h.inp.cong (hI _ (by omega)) rfl (by simp [sQ])
  · exact h.made.cong (hI _ (by omega)) rfl (sQ_o (by omega))
  · exact h.kept.cong (hI _ (by omega)) rfl (sQ_o (by omega))
theorem op_write {N h : Nat} (hN : 10000 ≤ N) {σ : SG} {s : AS} (hS : St σ s) : Out h σ s ex0 (DX9_write N h (HH h σ)) (fun σ' => DX10_write N (h + 275) (HH h σ')) := by
  obtain ⟨hC, hM, hI⟩ := hS
  have hn := hI.n40
  have hlen : ∀ q, q < 40 → (s.2.2.1 q 0).length ≤ 30 ∧ (s.2.2.1 q 1).length ≤ 12 := fun q hq => hC.len hq
  obtain ⟨τ, t1, t2, t3⟩ := e_write (N := N) (h := h) hN hC hI
  refine ⟨sQ s 40 1 (datL s s.2.2.2), τ, .inl (nI (datL s s.2.2.2).length), t1, t2, hI.q40 1 _, t3, fun σ' hM' => ?_⟩
  obtain ⟨υ, u1, u2, u3, u4⟩ := f_wr12 (N := N) (h := h) hN hI hlen N 0 (uI (uI σ' 275 0 0) 275 35 0) (by omega) (by omega) (hM'.thr 0).dclear
  refine ⟨_, υ, ?_, u2, (fm.I.tr fm.I).tr u3, Or.inl ⟨rfl, ?_⟩⟩
  · rw [nI_0] at u1
    simp only [DX10_write, r_ck, r_0, r_1, r_2, r_3, r_4, r_5, r_6, r_7, r_8, r_9, r_10, r_11, r_12, r_13, r_14, r_15, r_16, r_17, r_18, r_19, r_20, r_21, r_22, r_23, r_24, r_25, r_26, r_27, r_28, r_29, r_30, r_31, r_32, r_33, r_34, r_35, r_36, r_37, rp_0, rp_1, rp_26, rp_28, rp_30, rp_33, rp_35, rp_37, Option.bind_some, bRT, bRW, bWW, bW, le0, ne10, if_true, if_false, not_true_eq_false, not_false_eq_true, uI_at, uA_1, uB_1, uG_1, uI_2, u1]
  · rw [u4, uI_ne _ _ _ _ (by omega), uI_at]
