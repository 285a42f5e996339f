/-! flatten -/
def pstep (σ : SG) (c : Nat) (f : Nat → Int32) : SG := uI (uA (uA (uA (uA (uA σ 303 (5 * c + 0) (f 0)) 303 (5 * c + 1) (f 1)) 303 (5 * c + 2) (f 2)) 303 (5 * c + 3) (f 3)) 303 (5 * c + 4) (f 4)) 275 33 (nI (c + 1))
theorem pstep_but (σ : SG) (c : Nat) (f : Nat → Int32) : sbut [275, 303] σ (pstep σ c f) :=
  (((((sbut.uA (by simp)).tr (sbut.uA (by simp))).tr (sbut.uA (by simp))).tr (sbut.uA (by simp))).tr (sbut.uA (by simp))).tr (sbut.uI (by simp))
theorem pstep_I {σ : SG} {c j : Nat} {f : Nat → Int32} (hj : j ≠ 33) : (pstep σ c f).1 275 j = σ.1 275 j := by
  unfold pstep
  rw [uI_ne _ _ _ _ (by omega)]
  rfl
theorem pstep_A {σ : SG} {c w : Nat} {f : Nat → Int32} (hw : w < 5) : (pstep σ c f).2.2.1 303 (5 * c + w) = f w := by
  show (uA (uA (uA (uA (uA σ 303 (5 * c + 0) (f 0)) 303 (5 * c + 1) (f 1)) 303 (5 * c + 2) (f 2)) 303 (5 * c + 3) (f 3)) 303 (5 * c + 4) (f 4)).2.2.1 303 (5 * c + w) = f w
  rcases (show w = 0 ∨ w = 1 ∨ w = 2 ∨ w = 3 ∨ w = 4 by omega) with rfl | rfl | rfl | rfl | rfl <;> simp [uA]
theorem pstep_B {σ : SG} {c d : Nat} {f : Nat → Int32} (hd : d < 5 * c) : (pstep σ c f).2.2.1 303 d = σ.2.2.1 303 d := by
  show (uA (uA (uA (uA (uA σ 303 (5 * c + 0) (f 0)) 303 (5 * c + 1) (f 1)) 303 (5 * c + 2) (f 2)) 303 (5 * c + 3) (f 3)) 303 (5 * c + 4) (f 4)).2.2.1 303 d = _
  rw [uA_ne _ _ _ _ (by omega), uA_ne _ _ _ _ (by omega), uA_ne _ _ _ _ (by omega), uA_ne _ _ _ _ (by omega), uA_ne _ _ _ _ (by omega)]
theorem RM.page {σ : SG} {s : AS} (h : RM σ s) (hlen : ∀ w, w < 5 → (s.2.2.1 42 w).length = (s.2.2.1 42 0).length) (f : Nat → Int32) : RM (pstep σ (s.2.2.1 42 0).length f) (sX s 42 (fun w => [f w])) := by
  have hb := pstep_but σ (s.2.2.1 42 0).length f
  have hA : ∀ k, k ≠ 275 → k ≠ 303 → (pstep σ (s.2.2.1 42 0).length f).2.2.1 k = σ.2.2.1 k := fun k a b => (hb.ag (k := k) (by simp; omega)).2.2.1
  have hB : ∀ k, k ≠ 275 → k ≠ 303 → (pstep σ (s.2.2.1 42 0).length f).2.2.2 k = σ.2.2.2 k := fun k a b => (hb.ag (k := k) (by simp; omega)).2.2.2
  refine ⟨by rw [pstep_I (by omega)]; exact h.nn, fun i hi => (h.F hi).cong (fun k _ _ _ _ _ _ _ => by rw [hA k (by omega) (by omega)]) ⟨by rw [hB _ (by omega) (by omega)], by rw [hB _ (by omega) (by omega)]⟩ rfl rfl (fun _ => ⟨rfl, rfl⟩), fun i hi => (h.W hi).cong (fun k _ _ _ _ _ => by rw [hA k (by omega) (by omega)]) (fun j _ => by rw [hA _ (by omega) (by omega)]) (fun j _ => by rw [hA _ (by omega) (by omega)]) (fun j _ => by rw [hA _ (by omega) (by omega)]) rfl (sX_o (by omega)), ⟨?_, ?_, ?_⟩, ?_, ⟨?_, fun w hw q hq => ?_⟩⟩
  · exact h.fai.cong (pstep_I (by omega)) (hA _ (by omega) (by omega)) (by rw [sX_o (by omega)])
  · exact h.dat.cong (pstep_I (by omega)) (hA _ (by omega) (by omega)) (by rw [sX_o (by omega)])
  · exact h.inp.cong (pstep_I (by omega)) (hA _ (by omega) (by omega)) (by rw [sX_o (by omega)])
  · exact h.made.cong (pstep_I (by omega)) (hA _ (by omega) (by omega)) (sX_o (by omega))
  · rw [sX_c (by omega), List.length_append]
    exact uI_at _ _ _ _
  · rw [sX_c (by omega), List.length_append] at hq
    rw [sX_c hw, getD_app (by rw [hlen w hw]; simp at hq; omega), hlen w hw]
    by_cases z : q = (s.2.2.1 42 0).length
    · rw [if_pos z, z]
      exact pstep_A hw
    · rw [if_neg z, pstep_B (by simp at hq; omega)]
      exact h.kept.2 w hw q (by simp at hq; omega)
theorem f_fl100 {N h : Nat} {σ : SG} {c k : Nat} (hc : c < 400) (hk : k < 40) (h33 : σ.1 275 33 = nI c) (f : Nat → Int32) (hf : ∀ w, w < 4 → σ.2.2.1 302 (4 * k + w) = f w) (kk : Nat → Int32 → Int32 → Int32 → HF → Option (Int32 × HF)) (v1 v3 : Int32) (hv1 : v1 = f 4) (w : Nat) : DX10_flatten_100 N kk (w + 5) (h + 275) v1 v3 (nI k) 0 (HH h σ) = kk (h + 275) v1 v3 (nI (k + 1)) (HH h (pstep σ c f)) := by
  have rd : ∀ (τ : SG) (j : Nat), j < 4 → τ.2.2.1 302 = σ.2.2.1 302 → aI (HH h τ) (h + 302) 0 (nI (4 * k + j)) = some (f j) := fun τ j hj ht => by
    rw [aN0 (k := 302) rfl (show 4 * k + j < ln 302 from show _ < 160 by omega), ht, hf j hj]
  have wr : ∀ (τ : SG) (j : Nat) (x : Int32), j < 5 → sI (HH h τ) (h + 303) 0 (nI (5 * c + j)) x = some (HH h (uA τ 303 (5 * c + j) x)) := fun τ j x hj => sN0 (k := 303) rfl (show 5 * c + j < ln 303 from show _ < 2000 by omega) x
  have d : ∀ (τ : SG) (j : Nat) (x : Int32), (uA τ 303 j x).2.2.1 302 = τ.2.2.1 302 := fun τ j x => by
    funext q
    exact uA_ne _ _ _ _ (by omega)
  have e4 : ∀ j : Nat, nI (4 * k) + nI j = nI (4 * k + j) := fun j => nI_add _ _
  have e5 : ∀ j : Nat, nI (5 * c) + nI j = nI (5 * c + j) := fun j => nI_add _ _
  have st : ∀ (w j : Nat) (τ : SG), j < 4 → τ.2.2.1 302 = σ.2.2.1 302 → τ.1 275 33 = nI c → DX10_flatten_100 N kk (w + 1) (h + 275) v1 v3 (nI k) (nI j) (HH h τ) = DX10_flatten_100 N kk w (h + 275) v1 v3 (nI k) (nI (j + 1)) (HH h (uA τ 303 (5 * c + j) (f j))) := fun w j τ hj ht h3 => by
    simp only [DX10_flatten_100, r_ck, r_0, r_1, r_2, r_3, r_4, r_5, r_6, r_7, r_8, r_9, r_10, r_11, r_12, r_13, r_14, r_15, r_16, r_17, r_18, r_19, r_20, r_21, r_22, r_23, r_24, r_25, r_26, r_27, r_28, r_29, r_30, r_31, r_32, r_33, r_34, r_35, r_36, r_37, rp_0, rp_1, rp_26, rp_28, rp_30, rp_33, rp_35, rp_37, Option.bind_some, bRT, bRW, bWW, bW, le0, ne10, if_true, if_false, not_true_eq_false, not_false_eq_true, uI_at, uA_1, uB_1, uG_1, uI_2, h3, n4, n5, e4, e5, rd τ j hj ht, wr τ j _ (by omega), nI_1]
    rw [if_neg (show ¬ (4 : Int32) ≤ nI j from nI_ge (b := 4) (by omega) (by omega))]
  have s0 := st (w + 4) 0 σ (by omega) rfl h33
  rw [nI_0] at s0
  have s1 := st (w + 3) 1 (uA σ 303 (5 * c + 0) (f 0)) (by omega) (by rw [d]) h33
  have s2 := st (w + 2) 2 (uA (uA σ 303 (5 * c + 0) (f 0)) 303 (5 * c + 1) (f 1)) (by omega) (by rw [d, d]) h33
  have s3 := st (w + 1) 3 (uA (uA (uA σ 303 (5 * c + 0) (f 0)) 303 (5 * c + 1) (f 1)) 303 (5 * c + 2) (f 2)) (by omega) (by rw [d, d, d]) h33
  refine s0.trans (s1.trans (s2.trans (s3.trans ?_)))
  rw [DX10_flatten_100, if_pos (by decide)]
  have e5' : nI (5 * c) + (4 : Int32) = nI (5 * c + 4) := nI_add _ 4
  simp only [r_ck, r_0, r_1, r_2, r_3, r_4, r_5, r_6, r_7, r_8, r_9, r_10, r_11, r_12, r_13, r_14, r_15, r_16, r_17, r_18, r_19, r_20, r_21, r_22, r_23, r_24, r_25, r_26, r_27, r_28, r_29, r_30, r_31, r_32, r_33, r_34, r_35, r_36, r_37, rp_0, rp_1, rp_26, rp_28, rp_30, rp_33, rp_35, rp_37, Option.bind_some, bRT, bRW, bWW, bW, le0, ne10, if_true, if_false, not_true_eq_false, not_false_eq_true, uI_at, uA_1, uB_1, uG_1, uI_2, h33, n5, e5', wr _ 4 _ (by omega), nI_1, hv1]
  rfl
theorem sX_len {s : AS} {c w : Nat} {f : Nat → List Int32} (hw : w < 5) : ((sX s c f).2.2.1 c w).length = (s.2.2.1 c w).length + (f w).length := by
  rw [sX_c hw, List.length_append]
theorem f_fl91 {N h : Nat} (hN : 10000 ≤ N) {i : Nat} (hi4 : i < 40) {g : Nat → List Int32} {n : Nat} (hn : n ≤ 31) (hg : ∀ w, w < 5 → (g w).length = n) (hg4 : ∀ q, q < n → (g 4).getD q 0 = nI i) : ∀ (w k : Nat) (σ : SG) (s : AS), n - k < w → k ≤ n → RM σ s → (∀ w, w < 5 → (s.2.2.1 42 w).length = (s.2.2.1 42 0).length) → (s.2.2.1 42 0).length + (n - k) ≤ 400 → (∀ q, q < n → ∀ w, w < 4 → σ.2.2.1 302 (4 * q + w) = (g w).getD q 0) → ∃ τ, DX10_flatten_91 N w (h + 275) (nI i) (nI n) (nI k) (HH h σ) = some (nI ((s.2.2.1 42 0).length + (n - k)), HH h (uA τ 283 i 1)) ∧ RM τ (sX s 42 (fun w => (g w).drop k)) ∧ sbut [275, 303] σ τ ∧ τ.1 275 0 = σ.1 275 0 := by
  intro w
  induction w with
  | zero => intro k σ s hw; omega
  | succ w ih =>
    intro k σ s hw hk hM hlen hcap h302
    have h33 := hM.kept.1
    rw [DX10_flatten_91]
    by_cases z : n ≤ k
    · refine ⟨σ, ?_, ?_, sbut.rf, rfl⟩
      · rw [if_pos (nI_le z (by omega))]
        simp only [r_ck, r_0, r_1, r_2, r_3, r_4, r_5, r_6, r_7, r_8, r_9, r_10, r_11, r_12, r_13, r_14, r_15, r_16, r_17, r_18, r_19, r_20, r_21, r_22, r_23, r_24, r_25, r_26, r_27, r_28, r_29, r_30, r_31, r_32, r_33, r_34, r_35, r_36, r_37, rp_0, rp_1, rp_26, rp_28, rp_30, rp_33, rp_35, rp_37, Option.bind_some, bRT, bRW, bWW, bW, le0, ne10, if_true, if_false, not_true_eq_false, not_false_eq_true, uI_at, uA_1, uB_1, uG_1, uI_2, sN2 (k := 283) rfl (show i < ln 283 from hi4), h33]
        rw [show n - k = 0 by omega, Nat.add_zero]
      · have : sX s 42 (fun w => (g w).drop k) = s := by
          have e : ∀ w, w < 5 → (g w).drop k = [] := fun w hw => List.drop_eq_nil_of_le (by rw [hg w hw]; exact z)
          have : sX s 42 (fun w => (g w).drop k) = sX s 42 (fun _ => []) := by
            unfold sX
            congr 2
            congr 1
            funext i w
            by_cases hc : i = 42 ∧ w < 5
            · simp only [hc, and_self, if_true, e w hc.2]
            · simp only [hc, if_false]
          rw [this, sX_nil]
        rw [this]
        exact hM
    · have hlt : k < n := by omega
      obtain ⟨w', rfl⟩ : ∃ w', N = w' + 5 := ⟨N - 5, by omega⟩
      have h100 := f_fl100 (N := w' + 5) (h := h) (σ := σ) (c := (s.2.2.1 42 0).length) (k := k) (by omega) (by omega) h33 (fun w => (g w).getD k 0) (fun w hw => h302 k hlt w hw) (DX10_flatten_91 (w' + 5) w) (nI i) (nI n) (hg4 k hlt).symm w'
      have hM2 := hM.page hlen (fun w => (g w).getD k 0)
      have hb := pstep_but σ (s.2.2.1 42 0).length (fun w => (g w).getD k 0)
      have l0 : ((sX s 42 (fun w => [(g w).getD k 0])).2.2.1 42 0).length = (s.2.2.1 42 0).length + 1 := sX_len (by omega)
      obtain ⟨τ, t1, t2, t3, t4⟩ := ih (k + 1) (pstep σ (s.2.2.1 42 0).length (fun w => (g w).getD k 0)) (sX s 42 (fun w => [(g w).getD k 0])) (by omega) (by omega) hM2 (fun w hw => by rw [l0, sX_len hw, hlen w hw]; rfl) (by rw [l0]; omega) (fun q hq w hw => by rw [(hb.ag (k := 302) (by simp)).2.2.1]; exact h302 q hq w hw)
      refine ⟨τ, ?_, ?_, hb.tr t3, by rw [t4, pstep_I (by omega)]⟩
      · rw [if_neg (nI_ge hlt (by omega)), h100, t1, l0]
        congr 3
        omega
      · rw [sX_X] at t2
        have : sX s 42 (fun w => [(g w).getD k 0] ++ (g w).drop (k + 1)) = sX s 42 (fun w => (g w).drop k) := by
          unfold sX
          congr 2
          congr 1
          funext i w
          by_cases hc : i = 42 ∧ w < 5
          · simp only [hc, and_self, if_true]
            rw [drop_cons (l := g w) (j := k) (by rw [hg w hc.2]; exact hlt)]
            rfl
          · simp only [hc, if_false]
        rw [this] at t2
        exact t2
theorem op_flatten {N h : Nat} (hN : 10000 ≤ N) {σ : SG} {s : AS} (hS : St σ s) (x : Int32) : Out h σ s ex12 (DX9_flatten N h x (HH h σ)) (fun σ' => DX10_flatten N (h + 275) x (HH h σ')) := by
  have hS' := hS
  obtain ⟨hC, hM, hI⟩ := hS
  have hn := hI.n40
  rcases ixc x hn with hx | ⟨i, hi, rfl⟩
  · refine Out.thr hS' 1 (by omega) 0 ?_ (fun σ' hM' => ?_)
    · simp only [DX9_flatten, o_ck, o_0, o_1, o_2, o_3, o_4, o_5, o_6, t_ck, t_0, v_ck, v_0, q_ck, q_0, q_1, q_2, q_3, q_4, wr_ck, wr_0, wr_1, wr_2, rd_ck, rd_0, rd_1, Option.bind_some, bRT, bRW, bWW, bW, le0, ne10, if_true, if_false, not_true_eq_false, not_false_eq_true, uI_at, uA_1, uB_1, uG_1, uI_2, e_tg0 hC hx]
      rfl
    · simp only [DX10_flatten, r_ck, r_0, r_1, r_2, r_3, r_4, r_5, r_6, r_7, r_8, r_9, r_10, r_11, r_12, r_13, r_14, r_15, r_16, r_17, r_18, r_19, r_20, r_21, r_22, r_23, r_24, r_25, r_26, r_27, r_28, r_29, r_30, r_31, r_32, r_33, r_34, r_35, r_36, r_37, rp_0, rp_1, rp_26, rp_28, rp_30, rp_33, rp_35, rp_37, Option.bind_some, bRT, bRW, bWW, bW, le0, ne10, if_true, if_false, not_true_eq_false, not_false_eq_true, uI_at, uA_1, uB_1, uG_1, uI_2, e_cf1 hM' hx, le1]
      rfl
  · obtain ⟨m, hm, e, ek⟩ := hI.f hi
    have hm4 : m < 40 := by omega
    have hi4 : i < 40 := by omega
    have hl := hC.len hm4
    have hsl := showL_len hC hI hm
    have hsz := szk_le hC hI hm
    by_cases hk : s.1 i 1 = 0
    · refine Out.thr hS' 2 (by omega) 0 ?_ (fun σ' hM' => ?_)
      · simp only [DX9_flatten, o_ck, o_0, o_1, o_2, o_3, o_4, o_5, o_6, t_ck, t_0, v_ck, v_0, q_ck, q_0, q_1, q_2, q_3, q_4, wr_ck, wr_0, wr_1, wr_2, rd_ck, rd_0, rd_1, Option.bind_some, bRT, bRW, bWW, bW, le0, ne10, if_true, if_false, not_true_eq_false, not_false_eq_true, uI_at, uA_1, uB_1, uG_1, uI_2, e_tg hC hi, e_mw2 hC hi hm e (ek.trans hk)]
        rfl
      · simp only [DX10_flatten, r_ck, r_0, r_1, r_2, r_3, r_4, r_5, r_6, r_7, r_8, r_9, r_10, r_11, r_12, r_13, r_14, r_15, r_16, r_17, r_18, r_19, r_20, r_21, r_22, r_23, r_24, r_25, r_26, r_27, r_28, r_29, r_30, r_31, r_32, r_33, r_34, r_35, r_36, r_37, rp_0, rp_1, rp_26, rp_28, rp_30, rp_33, rp_35, rp_37, Option.bind_some, bRT, bRW, bWW, bW, le0, ne10, if_true, if_false, not_true_eq_false, not_false_eq_true, uI_at, uA_1, uB_1, uG_1, uI_2, e_cf2 hM' hn hi hk, le2]
        rfl
    · have hkm : ¬ s.1 m 1 = 0 := by rw [ek]; exact hk
      have hC1 := hC.shown (showL s m)
      have hkept := hC.kept
      have hc4 : (s.2.2.1 42 0).length ≤ 400 := hkept.2.2.1
      have hrc : (rapp (uI σ 244 1 0) 244 (showL s m)).1 244 1 = nI (showL s m).length := by
        rw [hC1.view.2.2.1, ← rlist_len, shown_list hsl]
      -- the reference, once it has shown
      have hsum : nI (s.2.2.1 42 0).length + (nI (showL s m).length + 1) = nI ((s.2.2.1 42 0).length + ((showL s m).length + 1)) := by rw [nI_1, nI_add]
      have hsum2 : nI (s.2.2.1 42 0).length + 1 + nI (showL s m).length = nI ((s.2.2.1 42 0).length + ((showL s m).length + 1)) := by
        rw [nI_1, nI_add]
        congr 1
        omega
      have hR : ∀ σ', RM σ' s → DX10_flatten N (h + 275) (nI i) (HH h σ') = (if s.1 i 5 = 0 then (if nI ((s.2.2.1 42 0).length + ((showL s m).length + 1)) ≤ (400 : Int32) then DX10_flatten_66 N (h + 275) (nI i) (h + 275) 0 (HH h (mapp (uI (uI σ' 275 0 0) 275 28 0) (showL s m))) else DX10_flatten_66 N (h + 275) (nI i) (h + 275) 4 (HH h (mapp (uI (uI σ' 275 0 0) 275 28 0) (showL s m)))) else DX10_flatten_66 N (h + 275) (nI i) (h + 275) 3 (HH h (mapp (uI (uI σ' 275 0 0) 275 28 0) (showL s m)))) := fun σ' hM' => by
        have hM0 := hM'.thr 0
        have hM1 := (hM0.rsz 0).mapp (showL s m)
        obtain ⟨k0, r0⟩ := mr0 (uI σ' 275 0 0)
        obtain ⟨k1, r1⟩ := mstep k0 (showL s m) (by omega)
        rw [r0, Nat.zero_add] at r1
        have hI28 : (mapp (uI (uI σ' 275 0 0) 275 28 0) (showL s m)).1 275 28 = nI (showL s m).length := by rw [k1.1, r1]
        simp only [DX10_flatten, r_ck, r_0, r_1, r_2, r_3, r_4, r_5, r_6, r_7, r_8, r_9, r_10, r_11, r_12, r_13, r_14, r_15, r_16, r_17, r_18, r_19, r_20, r_21, r_22, r_23, r_24, r_25, r_26, r_27, r_28, r_29, r_30, r_31, r_32, r_33, r_34, r_35, r_36, r_37, rp_0, rp_1, rp_26, rp_28, rp_30, rp_33, rp_35, rp_37, Option.bind_some, bRT, bRW, bWW, bW, le0, ne10, if_true, if_false, not_true_eq_false, not_false_eq_true, uI_at, uA_1, uB_1, uG_1, uI_2, e_cf hM' hn hi hk, m_fst hM0 hn hi, e, f_show hN hM0 hI hm hl, hI28, m_flat hM1 hn hi, hM1.kept.1, hsum]
      by_cases hf : s.1 i 5 = 0
      · by_cases h4 : (s.2.2.1 42 0).length + ((showL s m).length + 1) ≤ 400
        · have hle : nI ((s.2.2.1 42 0).length + ((showL s m).length + 1)) ≤ (400 : Int32) := nI_le (b := 400) h4 (by omega)
          have eml : (mkL s i m 0).length = (showL s m).length + 1 := mkL_len s i m 0
          obtain ⟨τ, t1, t2, t3⟩ := e_addMarks (N := N) (h := h) hN hC1 hI (i := i) (m := m) hi hm (Or.inr ⟨rfl, rfl, rfl⟩) h4
          have hI1 : Inv (sX s 42 (mkL s i m)) := hI.lists rfl rfl rfl (fun q hq => sX_o (by omega))
          refine ⟨sA (sX s 42 (mkL s i m)) i 5 1, uI τ (3 + 6 * i) 5 1, .inl (nI ((s.2.2.1 42 0).length + ((showL s m).length + 1))), ?_, t2.I hi4 (by omega) 1, hI1.at1 hi (by omega) ((hI1.V hi).at1 (by omega)) ((hI1.O hi).at1 (by omega)) (fun q => absurd q (by omega)), (shown_fc.tr t3).tr (fc.I (by omega)), fun σ' hM' => ?_⟩
          · have hcnt : τ.1 268 2 = nI ((s.2.2.1 42 0).length + ((showL s m).length + 1)) := by
              rw [t2.kept.2.1, sX_len (by omega), eml]
            have hcnt2 : (uI τ (3 + 6 * i) 5 1).1 268 2 = nI ((s.2.2.1 42 0).length + ((showL s m).length + 1)) := by
              rw [uI_ne _ _ _ _ (by omega)]; exact hcnt
            have h0 : σ.1 268 2 = nI (s.2.2.1 42 0).length := hkept.2.1
            simp only [DX9_flatten, DX3_count, o_ck, o_0, o_1, o_2, o_3, o_4, o_5, o_6, t_ck, t_0, v_ck, v_0, q_ck, q_0, q_1, q_2, q_3, q_4, wr_ck, wr_0, wr_1, wr_2, rd_ck, rd_0, rd_1, Option.bind_some, bRT, bRW, bWW, bW, le0, ne10, if_true, if_false, not_true_eq_false, not_false_eq_true, uI_at, uA_1, uB_1, uG_1, uI_2, e_tg hC hi, e_mw hC hi hm e hkm, c_5 hC hi4, hf, ck_2 (k := 268) rfl, g_2_2 (k := 268) rfl, h0, e_show hN hC hI hm, e_count (r := 244) rfl, hrc, hsum2, hle, t1, p_1_5 (kd_F hi4), hcnt2]
          · have hM0 := hM'.thr 0
            have hM1 := ((hM0.rsz 0).mapp (showL s m)).thr 0
            obtain ⟨υ, u1, u2, u3, u4⟩ := f_make (N := N) (h := h) hN hM1 hI hi hm e hl hsl hsz (Or.inr rfl)
            have hM2 : RM υ s := hM1.work (fun j h0 h28 => u3 j h28) (fun k _ _ _ _ h300 h302 => (u2.ag (k := k) (by simp; omega)).2.2.1) ⟨(u2.ag (k := 290) (by simp)).2.2.2, (u2.ag (k := 291) (by simp)).2.2.2⟩
            obtain ⟨ω, w1, w2, w3, w4⟩ := f_fl91 (N := N) (h := h) hN hi4 (g := mkL s i m) (n := (showL s m).length + 1) (by omega) (fun w _ => mkL_len s i m w) (fun q hq => by
              cases q with
              | zero => simp [mkL, mhd]
              | succ q => rw [mkL_s s i m 4 (by omega)]; simp [mrk]) N 0 υ s (by omega) (by omega) hM2 (fun w hw => (hkept.2.2.2 w hw).1) (by omega) u4
            rw [Nat.sub_zero] at w1
            have w2' : RM ω (sX s 42 (mkL s i m)) := w2
            refine ⟨nI ((s.2.2.1 42 0).length + ((showL s m).length + 1)), uA ω 283 i 1, ?_, w2'.flat (fun q hq => by rw [sX_o (by omega)]; exact hC.len hq) hn hi, ?_, Or.inl ⟨rfl, ?_⟩⟩
            · refine (hR σ' hM').trans ?_
              rw [if_pos hf, if_pos hle]
              rw [nI_0] at w1
              simp only [DX10_flatten_66, r_ck, r_0, r_1, r_2, r_3, r_4, r_5, r_6, r_7, r_8, r_9, r_10, r_11, r_12, r_13, r_14, r_15, r_16, r_17, r_18, r_19, r_20, r_21, r_22, r_23, r_24, r_25, r_26, r_27, r_28, r_29, r_30, r_31, r_32, r_33, r_34, r_35, r_36, r_37, rp_0, rp_1, rp_26, rp_28, rp_30, rp_33, rp_35, rp_37, Option.bind_some, bRT, bRW, bWW, bW, le0, ne10, if_true, if_false, not_true_eq_false, not_false_eq_true, uI_at, uA_1, uB_1, uG_1, uI_2, u1, w1]
            · exact ((((fm.I.tr mapp_fm).tr fm.I).tr (fm.but u2 (by simp))).tr (fm.but w3 (by simp))).tr (fm.A (by omega))
            · rw [uA_1, w4, u3 0 (by omega), uI_at]
        · have hle : ¬ nI ((s.2.2.1 42 0).length + ((showL s m).length + 1)) ≤ (400 : Int32) := nI_ge (a := 400) (by omega) (by omega)
          refine ⟨s, rapp (uI σ 244 1 0) 244 (showL s m), .inr (ex12 4), ?_, hC1, hI, shown_fc, fun σ' hM' => ⟨0, uI (mapp (uI (uI σ' 275 0 0) 275 28 0) (showL s m)) 275 0 4, ?_, (((hM'.thr 0).rsz 0).mapp _).thr 4, (fm.I.tr mapp_fm).tr fm.I, Or.inr ⟨4, by omega, by omega, rfl, ?_, by decide⟩⟩⟩
          · have h0 : σ.1 268 2 = nI (s.2.2.1 42 0).length := hkept.2.1
            simp only [DX9_flatten, DX3_count, o_ck, o_0, o_1, o_2, o_3, o_4, o_5, o_6, t_ck, t_0, v_ck, v_0, q_ck, q_0, q_1, q_2, q_3, q_4, wr_ck, wr_0, wr_1, wr_2, rd_ck, rd_0, rd_1, Option.bind_some, bRT, bRW, bWW, bW, le0, ne10, if_true, if_false, not_true_eq_false, not_false_eq_true, uI_at, uA_1, uB_1, uG_1, uI_2, e_tg hC hi, e_mw hC hi hm e hkm, c_5 hC hi4, hf, ck_2 (k := 268) rfl, g_2_2 (k := 268) rfl, h0, e_show hN hC hI hm, e_count (r := 244) rfl, hrc, hsum2, hle]
            rfl
          · refine (hR σ' hM').trans ?_
            rw [if_pos hf, if_neg hle]
            simp only [DX10_flatten_66, r_ck, r_0, r_1, r_2, r_3, r_4, r_5, r_6, r_7, r_8, r_9, r_10, r_11, r_12, r_13, r_14, r_15, r_16, r_17, r_18, r_19, r_20, r_21, r_22, r_23, r_24, r_25, r_26, r_27, r_28, r_29, r_30, r_31, r_32, r_33, r_34, r_35, r_36, r_37, rp_0, rp_1, rp_26, rp_28, rp_30, rp_33, rp_35, rp_37, Option.bind_some, bRT, bRW, bWW, bW, le0, ne10, if_true, if_false, not_true_eq_false, not_false_eq_true, uI_at, uA_1, uB_1, uG_1, uI_2, le4]
          · rw [uI_at]; rfl
      · refine ⟨s, σ, .inr (ex12 3), ?_, hC, hI, fc.rf, fun σ' hM' => ⟨0, uI (mapp (uI (uI σ' 275 0 0) 275 28 0) (showL s m)) 275 0 3, ?_, (((hM'.thr 0).rsz 0).mapp _).thr 3, (fm.I.tr mapp_fm).tr fm.I, Or.inr ⟨3, by omega, by omega, rfl, ?_, by decide⟩⟩⟩
        · simp only [DX9_flatten, o_ck, o_0, o_1, o_2, o_3, o_4, o_5, o_6, t_ck, t_0, v_ck, v_0, q_ck, q_0, q_1, q_2, q_3, q_4, wr_ck, wr_0, wr_1, wr_2, rd_ck, rd_0, rd_1, Option.bind_some, bRT, bRW, bWW, bW, le0, ne10, if_true, if_false, not_true_eq_false, not_false_eq_true, uI_at, uA_1, uB_1, uG_1, uI_2, e_tg hC hi, e_mw hC hi hm e hkm, c_5 hC hi4, hf]
          rfl
        · refine (hR σ' hM').trans ?_
          rw [if_neg hf]
          simp only [DX10_flatten_66, r_ck, r_0, r_1, r_2, r_3, r_4, r_5, r_6, r_7, r_8, r_9, r_10, r_11, r_12, r_13, r_14, r_15, r_16, r_17, r_18, r_19, r_20, r_21, r_22, r_23, r_24, r_25, r_26, r_27, r_28, r_29, r_30, r_31, r_32, r_33, r_34, r_35, r_36, r_37, rp_0, rp_1, rp_26, rp_28, rp_30, rp_33, rp_35, rp_37, Option.bind_some, bRT, bRW, bWW, bW, le0, ne10, if_true, if_false, not_true_eq_false, not_false_eq_true, uI_at, uA_1, uB_1, uG_1, uI_2, le3]
        · rw [uI_at]; rfl
