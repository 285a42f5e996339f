/-! READING: values, in the reference -/
theorem f_tv29 {N h : Nat} {σ : SG} {s : AS} (hM : RM σ s) (hn : s.2.2.2 ≤ 40) (hl : (s.2.2.1 40 2).length ≤ 3000) {m : Nat} (hm : m < s.2.2.2) (hk : s.1 m 1 = 1 ∨ s.1 m 1 = 5) {e : Nat} (he : e ≤ (s.2.2.1 40 2).length) (v2 v4 : Int32) : ∀ (w j : Nat) (b : Int32), j ≤ e → e - j < w → (b = 0 ∨ b = 1) → ∃ b' : Int32, DX10_takeValue_29 N w (h + 275) (nI m) v2 (nI e) v4 b (nI j) (HH h σ) = DX10_takeValue_71 N N (h + 275) (nI m) v2 (nI e) v4 b' v2 (HH h σ) ∧ (b' = 0 ∨ b' = 1) ∧ (b' = 1 ↔ b = 1 ∧ ∀ c ∈ seg (s.2.2.1 40 2) j e, sgn s m c) := by
  intro w
  induction w with
  | zero => intro j b _ hw; omega
  | succ w ih =>
    intro j b hj hw hb
    rw [DX10_takeValue_29]
    by_cases z : e ≤ j
    · obtain rfl : j = e := by omega
      refine ⟨b, by rw [if_pos (nI_le z (by omega))], hb, ⟨fun q => ⟨q, fun c hc => ?_⟩, fun q => q.1⟩⟩
      rw [seg_nil] at hc
      exact absurd hc (by simp)
    · have hlt : j < e := by omega
      rw [if_neg (nI_ge hlt (by omega)), seg_cons hlt he]
      simp only [DX10_takeValue_59, DX10_takeValue_60, r_ck, r_0, r_1, r_2, r_3, r_4, r_5, r_6, r_7, r_8, r_9, r_10, r_11, r_12, r_13, r_14, r_15, r_16, r_17, r_18, r_19, r_20, r_21, r_22, r_23, r_24, r_25, r_26, r_27, r_28, r_29, r_30, r_31, r_32, r_33, r_34, r_35, r_36, r_37, rp_0, rp_1, rp_26, rp_28, rp_30, rp_33, rp_35, rp_37, Option.bind_some, bRT, bRW, bWW, bW, le0, ne10, if_true, if_false, not_true_eq_false, not_false_eq_true, uI_at, uA_1, uB_1, uG_1, uI_2, m_in hM (show j < (s.2.2.1 40 2).length by omega) hl, f_isSign hM hn hm hk, ite01, nI_1]
      rcases hb with y | y
      · rw [if_pos y]
        obtain ⟨b', t1, t2, t3⟩ := ih (j + 1) 0 (by omega) (by omega) (Or.inl rfl)
        exact ⟨b', t1, t2, t3.trans ⟨fun q => absurd q.1 (by decide), fun q => by rw [y] at q; exact absurd q.1 (by decide)⟩⟩
      · rw [if_neg (by rw [y]; decide)]
        by_cases c : sgn s m ((s.2.2.1 40 2).getD j 0)
        · rw [if_neg (fun q => q c)]
          obtain ⟨b', t1, t2, t3⟩ := ih (j + 1) 1 (by omega) (by omega) (Or.inr rfl)
          refine ⟨b', t1, t2, t3.trans ⟨fun q => ⟨y, fun x hx => ?_⟩, fun q => ⟨rfl, fun x hx => q.2 x (by simp [hx])⟩⟩⟩
          rcases List.mem_cons.mp hx with u | u
          · rw [u]; exact c
          · exact q.2 x u
        · rw [if_pos c]
          obtain ⟨b', t1, t2, t3⟩ := ih (j + 1) 0 (by omega) (by omega) (Or.inl rfl)
          exact ⟨b', t1, t2, t3.trans ⟨fun q => absurd q.1 (by decide), fun q => absurd (q.2 _ (by simp)) c⟩⟩
theorem f_tv71_0 {N h : Nat} (hN : 10000 ≤ N) {σ : SG} {m : Nat} (hm4 : m < 40) {a e : Nat} {b : Int32} (hb : b = 0 ∨ b = 1) : DX10_takeValue_71 N N (h + 275) (nI m) (nI a) (nI e) 0 b (nI a) (HH h σ) = some (b, HH h σ) := by
  obtain ⟨w, rfl⟩ : ∃ w, N = w + 1 := ⟨N - 1, by omega⟩
  have e109 : DX10_takeValue_109 (w + 1) (h + 275) (nI m) (nI a) (nI e) 0 b (HH h σ) = some (b, HH h σ) := by
    simp only [DX10_takeValue_109, DX10_takeValue_131, r_ck, r_0, r_1, r_2, r_3, r_4, r_5, r_6, r_7, r_8, r_9, r_10, r_11, r_12, r_13, r_14, r_15, r_16, r_17, r_18, r_19, r_20, r_21, r_22, r_23, r_24, r_25, r_26, r_27, r_28, r_29, r_30, r_31, r_32, r_33, r_34, r_35, r_36, r_37, rp_0, rp_1, rp_26, rp_28, rp_30, rp_33, rp_35, rp_37, Option.bind_some, bRT, bRW, bWW, bW, le0, ne10, if_true, if_false, not_true_eq_false, not_false_eq_true, uI_at, uA_1, uB_1, uG_1, uI_2, aN0 (k := 285) rfl (show m < ln 285 from hm4), sN0 (k := 285) rfl (show m < ln 285 from hm4), uA_self, if_pos hb]
  rw [DX10_takeValue_71]
  simp only [e109, if_true, ite_self]
theorem f_tv71_1 {N h : Nat} {s : AS} (hl : (s.2.2.1 40 2).length ≤ 3000) {m : Nat} (hm4 : m < 40) {a e : Nat} (he : e ≤ (s.2.2.1 40 2).length) (h30 : e - a ≤ 30) {b : Int32} (hb : b = 0 ∨ b = 1) : ∀ (w j : Nat) (σ : SG), a ≤ j → j ≤ e → e - j < w → (∀ q, q < (s.2.2.1 40 2).length → σ.2.2.1 305 q = (s.2.2.1 40 2).getD q 0) → ∃ τ, DX10_takeValue_71 N w (h + 275) (nI m) (nI a) (nI e) 1 b (nI j) (HH h σ) = some (b, HH h τ) ∧ sbut [284, 285] σ τ ∧ τ.1 = σ.1 ∧ τ.2.2.2 = σ.2.2.2 ∧ τ.2.2.1 285 m = nI (e - a) ∧ (∀ c, c ≠ m → τ.2.2.1 285 c = σ.2.2.1 285 c) ∧ (∀ i, j ≤ i → i < e → τ.2.2.1 284 (30 * m + (i - a)) = (s.2.2.1 40 2).getD i 0) ∧ (∀ c, (∀ i, j ≤ i → i < e → c ≠ 30 * m + (i - a)) → τ.2.2.1 284 c = σ.2.2.1 284 c) := by
  intro w
  induction w with
  | zero => intro j σ _ _ hw; omega
  | succ w ih =>
    intro j σ haj hj hw h305
    rw [DX10_takeValue_71]
    by_cases z : e ≤ j
    · obtain rfl : j = e := by omega
      rw [if_pos (nI_le z (by omega))]
      simp only [DX10_takeValue_109, DX10_takeValue_131, r_ck, r_0, r_1, r_2, r_3, r_4, r_5, r_6, r_7, r_8, r_9, r_10, r_11, r_12, r_13, r_14, r_15, r_16, r_17, r_18, r_19, r_20, r_21, r_22, r_23, r_24, r_25, r_26, r_27, r_28, r_29, r_30, r_31, r_32, r_33, r_34, r_35, r_36, r_37, rp_0, rp_1, rp_26, rp_28, rp_30, rp_33, rp_35, rp_37, Option.bind_some, bRT, bRW, bWW, bW, le0, ne10, if_true, if_false, not_true_eq_false, not_false_eq_true, uI_at, uA_1, uB_1, uG_1, uI_2, nI_subI (show a ≤ j by omega), sN0 (k := 285) rfl (show m < ln 285 from hm4), if_pos hb]
      exact ⟨uA σ 285 m (nI (j - a)), rfl, sbut.uA (by simp), rfl, rfl, uA_at _ _ _ _, fun c hc => uA_ne _ _ _ _ (by omega), fun i h1 h2 => by omega, fun c _ => uA_ne _ _ _ _ (by omega)⟩
    · have hlt : j < e := by omega
      have b1 : 30 * m + (j - a) < ln 284 := show _ < 1200 by omega
      rw [if_neg (nI_ge hlt (by omega))]
      have hix : nI (30 * m) + nI j - nI a = nI (30 * m + (j - a)) := by rw [nI_add, nI_subI (by omega)]; congr 1; omega
      simp only [r_ck, r_0, r_1, r_2, r_3, r_4, r_5, r_6, r_7, r_8, r_9, r_10, r_11, r_12, r_13, r_14, r_15, r_16, r_17, r_18, r_19, r_20, r_21, r_22, r_23, r_24, r_25, r_26, r_27, r_28, r_29, r_30, r_31, r_32, r_33, r_34, r_35, r_36, r_37, rp_0, rp_1, rp_26, rp_28, rp_30, rp_33, rp_35, rp_37, Option.bind_some, bRT, bRW, bWW, bW, le0, ne10, if_true, if_false, not_true_eq_false, not_false_eq_true, uI_at, uA_1, uB_1, uG_1, uI_2, aN0 (k := 305) rfl (show j < ln 305 from show _ < 3000 by omega), h305 j (by omega), n30, hix, sN0 (k := 284) rfl b1, nI_1]
      obtain ⟨τ, t1, t2, t3, t4, t5, t6, t7, t8⟩ := ih (j + 1) (uA σ 284 (30 * m + (j - a)) ((s.2.2.1 40 2).getD j 0)) (by omega) (by omega) (by omega) (fun q hq => by rw [uA_ne _ _ _ _ (by omega)]; exact h305 q hq)
      refine ⟨τ, t1, (sbut.uA (by simp)).tr t2, t3, t4, t5, fun c hc => by rw [t6 c hc, uA_ne _ _ _ _ (by omega)], fun i h1 h2 => ?_, fun c hc => ?_⟩
      · by_cases q : i = j
        · subst q
          rw [t8 _ (fun i' h1 h2 => by omega), uA_at]
        · exact t7 i (by omega) h2
      · rw [t8 c (fun i h1 h2 => hc i (by omega) h2), uA_ne _ _ _ _ (fun q => hc j (by omega) hlt q.2)]
theorem f_tv317 {N h : Nat} {σ : SG} {s : AS} (hM : RM σ s) (hl : (s.2.2.1 40 2).length ≤ 3000) {Y : List Int32} (hk : σ.1 275 28 = nI Y.length) (hY : ∀ c, c < Y.length → σ.2.2.1 300 c = Y.getD c 0) (hYl : Y.length ≤ 64) (k263 : Nat → Int32 → Int32 → Int32 → Int32 → Int32 → HF → Option (Int32 × HF)) {a : Nat} (v1 v3 v4 v5 : Int32) : ∀ (w t : Nat) (fl : Int32), Y.length - t < w → t ≤ Y.length → (fl = 0 ∨ fl = 1) → (fl = 1 → a + Y.length ≤ (s.2.2.1 40 2).length) → ∃ fl' : Int32, DX10_takeValue_317 N k263 w (h + 275) v1 (nI a) v3 v4 v5 fl (nI t) (HH h σ) = DX10_takeValue_363 N k263 (h + 275) v1 (nI a) v3 v4 v5 fl' (HH h σ) ∧ (fl' = 0 ∨ fl' = 1) ∧ (fl' = 1 ↔ fl = 1 ∧ seg (s.2.2.1 40 2) (a + t) (a + Y.length) = Y.drop t) := by
  intro w
  induction w with
  | zero => intro t fl hw; omega
  | succ w ih =>
    intro t fl hw ht hfl hle
    simp only [DX10_takeValue_317, DX10_takeValue_355, r_ck, r_0, r_1, r_2, r_3, r_4, r_5, r_6, r_7, r_8, r_9, r_10, r_11, r_12, r_13, r_14, r_15, r_16, r_17, r_18, r_19, r_20, r_21, r_22, r_23, r_24, r_25, r_26, r_27, r_28, r_29, r_30, r_31, r_32, r_33, r_34, r_35, r_36, r_37, rp_0, rp_1, rp_26, rp_28, rp_30, rp_33, rp_35, rp_37, Option.bind_some, bRT, bRW, bWW, bW, le0, ne10, if_true, if_false, not_true_eq_false, not_false_eq_true, uI_at, uA_1, uB_1, uG_1, uI_2, hk]
    by_cases z : Y.length ≤ t
    · obtain rfl : t = Y.length := by omega
      refine ⟨fl, by rw [if_pos (nI_le z (by omega))], hfl, ⟨fun q => ⟨q, by rw [seg_nil, List.drop_length]⟩, fun q => q.1⟩⟩
    · have hlt : t < Y.length := by omega
      rw [if_neg (nI_ge hlt (by omega))]
      rcases hfl with y | y
      · rw [if_pos y]
        exact ⟨fl, rfl, Or.inl y, ⟨fun q => by rw [y] at q; exact absurd q (by decide), fun q => q.1⟩⟩
      · have hle' := hle y
        rw [if_neg (by rw [y]; decide), seg_cons (show a + t < a + Y.length by omega) hle', drop_cons hlt]
        simp only [nI_add, m_in hM (show a + t < (s.2.2.1 40 2).length by omega) hl, Option.bind_some, bRT, bRW, bWW, bW, le0, ne10, if_true, if_false, not_true_eq_false, not_false_eq_true, uI_at, uA_1, uB_1, uG_1, uI_2, aN0 (k := 300) rfl (show t < ln 300 from show _ < 64 by omega), hY t hlt, nI_1]
        by_cases c : (s.2.2.1 40 2).getD (a + t) 0 = Y.getD t 0
        · rw [if_pos c]
          obtain ⟨b', t1, t2, t3⟩ := ih (t + 1) 1 (by omega) (by omega) (Or.inr rfl) (fun _ => hle')
          exact ⟨b', t1, t2, t3.trans ⟨fun q => ⟨y, by rw [c, show a + t + 1 = a + (t + 1) by omega, q.2]⟩, fun q => ⟨rfl, (List.cons.inj q.2).2⟩⟩⟩
        · rw [if_neg c]
          obtain ⟨b', t1, t2, t3⟩ := ih (t + 1) 0 (by omega) (by omega) (Or.inl rfl) (fun q => absurd q (by decide))
          exact ⟨b', t1, t2, t3.trans ⟨fun q => absurd q.1 (by decide), fun q => absurd (List.cons.inj q.2).1 c⟩⟩
theorem f_tv263 {N h : Nat} (hN : 10000 ≤ N) {s : AS} (hI : Inv s) (hlen : ∀ q, q < 40 → (s.2.2.1 q 0).length ≤ 30 ∧ (s.2.2.1 q 1).length ≤ 12) (hl : (s.2.2.1 40 2).length ≤ 3000) {m : Nat} (hm : m < s.2.2.2) (hk : s.1 m 1 = 3 ∨ s.1 m 1 = 4) {a e : Nat} (ha : a ≤ e) (he : e ≤ (s.2.2.1 40 2).length) {tk : Int32} (htk : tk = 0 ∨ tk = 1) : ∀ (w o : Nat) (σ : SG), (s.2.2.1 m 1).length - o < w → o ≤ (s.2.2.1 m 1).length → RM σ s → ∃ τ b, DX10_takeValue_263 N w (h + 275) (nI m) (nI a) (nI e) tk (nI o) (HH h σ) = some (b, HH h τ) ∧ fm σ τ ∧ τ.1 275 0 = σ.1 275 0 ∧ ((b = 0 ∧ (∀ d, o ≤ d → d < (s.2.2.1 m 1).length → ¬ numL ((s.2.2.1 m 1).getD d 0).toNatClampNeg false = seg (s.2.2.1 40 2) a e) ∧ RM τ s) ∨ (b = 1 ∧ ∃ d, o ≤ d ∧ d < (s.2.2.1 m 1).length ∧ numL ((s.2.2.1 m 1).getD d 0).toNatClampNeg false = seg (s.2.2.1 40 2) a e ∧ (∀ d', o ≤ d' → d' < d → ¬ numL ((s.2.2.1 m 1).getD d' 0).toNatClampNeg false = seg (s.2.2.1 40 2) a e) ∧ (tk = 0 → RM τ s) ∧ (tk = 1 → RM τ (sA s m 10 (nI d))))) := by
  have hn := hI.n40
  have hm4 : m < 40 := by omega
  have hl12 := (hlen m hm4).2
  have hL := seg_len ha he
  intro w
  induction w with
  | zero => intro o σ hw; omega
  | succ w ih =>
    intro o σ hw ho hM
    simp only [DX10_takeValue_263, DX10_takeValue_312, r_ck, r_0, r_1, r_2, r_3, r_4, r_5, r_6, r_7, r_8, r_9, r_10, r_11, r_12, r_13, r_14, r_15, r_16, r_17, r_18, r_19, r_20, r_21, r_22, r_23, r_24, r_25, r_26, r_27, r_28, r_29, r_30, r_31, r_32, r_33, r_34, r_35, r_36, r_37, rp_0, rp_1, rp_26, rp_28, rp_30, rp_33, rp_35, rp_37, Option.bind_some, bRT, bRW, bWW, bW, le0, ne10, if_true, if_false, not_true_eq_false, not_false_eq_true, uI_at, uA_1, uB_1, uG_1, uI_2, m_opts hM hn hm]
    by_cases z : (s.2.2.1 m 1).length ≤ o
    · exact ⟨σ, 0, by rw [if_pos (nI_le z (by omega))], fm.rf, rfl, Or.inl ⟨rfl, fun d h1 h2 => by omega, hM⟩⟩
    · have hlt : o < (s.2.2.1 m 1).length := by omega
      obtain ⟨c, hc, ec⟩ := (hI.V hm).2.2.2.2.2.2 _ (getD_mem hlt)
      have hnl : (numL c false).length ≤ 5 := numL_f (k := 5) (by omega) (by omega)
      obtain ⟨m1, m2⟩ := mr0 σ
      have hM1 := hM.rsz 0
      have hnum := e_putNumber (N := N) (h := h) (m := c) (cm := 0) (σ := uI σ 275 28 0) hN (by omega) m1 (by rw [show (!decide ((0 : Int32) = 0)) = false from rfl]; omega)
      rw [show (!decide ((0 : Int32) = 0)) = false from rfl] at hnum
      obtain ⟨k2, r2⟩ := mstep m1 (numL c false) (by omega)
      rw [m2, Nat.zero_add] at r2
      have hM2 : RM (mapp (uI σ 275 28 0) (numL c false)) s := hM1.mapp _
      have hml : mlist (mapp (uI σ 275 28 0) (numL c false)) = numL c false := by rw [mapp_list _ (by omega), mlist_0]; rfl
      have h28 : (mapp (uI σ 275 28 0) (numL c false)).1 275 28 = nI (numL c false).length := by rw [k2.1, r2]
      have hfm : fm σ (mapp (uI σ 275 28 0) (numL c false)) := mapp_fm
      have h0 : (mapp (uI σ 275 28 0) (numL c false)).1 275 0 = σ.1 275 0 := by rw [mapp_I (by omega), uI_ne _ _ _ _ (by omega)]
      have eco : ((s.2.2.1 m 1).getD o 0).toNatClampNeg = c := by rw [ec, nI_clamp (by omega)]
      rw [if_neg (nI_ge hlt (by omega))]
      simp only [n12, nI_add, m_code hM1 hn hm hlt hl12, Option.bind_some, bRT, bRW, bWW, bW, le0, ne10, if_true, if_false, not_true_eq_false, not_false_eq_true, uI_at, uA_1, uB_1, uG_1, uI_2, ec, nI_l (show c < 2 ^ 31 by omega), hnum, r_28, h28, nI_subI ha]
      obtain ⟨fl, hfl, hfl2⟩ : ∃ fl : Int32, (fl = 0 ∨ fl = 1) ∧ (fl = 1 ↔ (numL c false).length = e - a) ∧ (if nI (numL c false).length = nI (e - a) then DX10_takeValue_317 N (DX10_takeValue_263 N w) N (h + 275) (nI m) (nI a) (nI e) tk (nI o) 1 0 (HH h (mapp (uI σ 275 28 0) (numL c false))) else DX10_takeValue_317 N (DX10_takeValue_263 N w) N (h + 275) (nI m) (nI a) (nI e) tk (nI o) 0 0 (HH h (mapp (uI σ 275 28 0) (numL c false)))) = DX10_takeValue_317 N (DX10_takeValue_263 N w) N (h + 275) (nI m) (nI a) (nI e) tk (nI o) fl 0 (HH h (mapp (uI σ 275 28 0) (numL c false))) := by
        by_cases y : (numL c false).length = e - a
        · exact ⟨1, Or.inr rfl, ⟨fun _ => y, fun _ => rfl⟩, by rw [if_pos (by rw [y])]⟩
        · exact ⟨0, Or.inl rfl, ⟨fun q => absurd q (by decide), fun q => absurd q y⟩, by rw [if_neg (fun q => y ((nI_eq (by omega) (by omega)).mp q))]⟩
      obtain ⟨hfl2, hfl3⟩ := hfl2
      rw [hfl3]
      obtain ⟨g, g1, g2, g3⟩ := f_tv317 (N := N) (h := h) hM2 hl (Y := numL c false) h28 (fun c' hc' => by rw [mlist_get (by omega), hml]) (by omega) (DX10_takeValue_263 N w) (a := a) (nI m) (nI e) tk (nI o) N 0 fl (by omega) (by omega) hfl (fun q => by have := hfl2.mp q; omega)
      rw [nI_0] at g1
      rw [Nat.add_zero, List.drop_zero] at g3
      rw [g1]
      have hg : g = 1 ↔ numL c false = seg (s.2.2.1 40 2) a e := by
        rw [g3]
        constructor
        · rintro ⟨q1, q2⟩
          rw [← q2, hfl2.mp q1, show a + (e - a) = e by omega]
        · intro q
          have hq : (numL c false).length = e - a := by rw [q, hL]
          exact ⟨hfl2.mpr hq, by rw [hq, show a + (e - a) = e by omega, q]⟩
      unfold DX10_takeValue_363
      rcases g2 with y | y
      · rw [if_pos y, nI_1]
        have hno : ¬ numL c false = seg (s.2.2.1 40 2) a e := fun q => by
          have := hg.mpr q
          rw [y] at this
          exact absurd this (by decide)
        obtain ⟨τ, b, t1, t2, t3, t4⟩ := ih (o + 1) _ (by omega) (by omega) hM2
        refine ⟨τ, b, t1, hfm.tr t2, by rw [t3, h0], ?_⟩
        rcases t4 with ⟨u1, u2, u3⟩ | ⟨u1, d, u2, u3, u4, u5, u6, u7⟩
        · refine Or.inl ⟨u1, fun d h1 h2 => ?_, u3⟩
          by_cases q : d = o
          · rw [q, eco]; exact hno
          · exact u2 d (by omega) h2
        · refine Or.inr ⟨u1, d, by omega, u3, u4, fun d' h1 h2 => ?_, u6, u7⟩
          by_cases q : d' = o
          · rw [q, eco]; exact hno
          · exact u5 d' (by omega) h2
      · rw [if_neg (by rw [y]; decide)]
        simp only [DX10_takeValue_389, r_ck, r_0, r_1, r_2, r_3, r_4, r_5, r_6, r_7, r_8, r_9, r_10, r_11, r_12, r_13, r_14, r_15, r_16, r_17, r_18, r_19, r_20, r_21, r_22, r_23, r_24, r_25, r_26, r_27, r_28, r_29, r_30, r_31, r_32, r_33, r_34, r_35, r_36, r_37, rp_0, rp_1, rp_26, rp_28, rp_30, rp_33, rp_35, rp_37, Option.bind_some, bRT, bRW, bWW, bW, le0, ne10, if_true, if_false, not_true_eq_false, not_false_eq_true, uI_at, uA_1, uB_1, uG_1, uI_2, aN0 (k := 286) rfl (show m < ln 286 from hm4), sN0 (k := 286) rfl (show m < ln 286 from hm4), uA_self]
        have hfound : numL ((s.2.2.1 m 1).getD o 0).toNatClampNeg false = seg (s.2.2.1 40 2) a e := by rw [eco]; exact hg.mp y
        rcases htk with t0 | t0
        · rw [if_pos t0]
          exact ⟨_, 1, rfl, hfm, h0, Or.inr ⟨rfl, o, Nat.le_refl _, hlt, hfound, fun d' h1 h2 => by omega, fun _ => hM2, fun q => by rw [t0] at q; exact absurd q (by decide)⟩⟩
        · rw [if_neg (by rw [t0]; decide)]
          exact ⟨_, 1, rfl, hfm.tr (fm.A (by omega)), h0, Or.inr ⟨rfl, o, Nat.le_refl _, hlt, hfound, fun d' h1 h2 => by omega, fun q => by rw [t0] at q; exact absurd q (by decide), fun _ => hM2.pick hlen hn hm⟩⟩
/-- spelled codes and numbers read -/
theorem codes_pn {s : AS} (hI : Inv s) {m : Nat} (hm : m < s.2.2.2) {X : List Int32} {d : Nat} (hd : d < (s.2.2.1 m 1).length) : numL ((s.2.2.1 m 1).getD d 0).toNatClampNeg false = X ↔ ∃ x, pn X = some x ∧ (s.2.2.1 m 1).getD d 0 = nI x := by
  obtain ⟨c, hc, ec⟩ := (hI.V hm).2.2.2.2.2.2 _ (getD_mem hd)
  rw [ec, nI_clamp (by omega)]
  constructor
  · intro e
    exact ⟨c, by rw [← e, pn_numL hc], rfl⟩
  · rintro ⟨x, e1, e2⟩
    obtain ⟨p1, p2⟩ := pn_some e1
    rw [nI_eq (by omega) (by omega)] at e2
    rw [e2, p1]
theorem k34_of {s : AS} (hI : Inv s) {m : Nat} (hm : m < s.2.2.2) (hk0 : ¬ s.1 m 1 = 0) (k : ¬ (s.1 m 1 = 1 ∨ s.1 m 1 = 5)) (k2 : ¬ s.1 m 1 = 2) : s.1 m 1 = 3 ∨ s.1 m 1 = 4 := by
  rcases hI.k6 hm with y | y | y | y | y | y
  · exact absurd y hk0
  · exact absurd (Or.inl y) k
  · exact absurd y k2
  · exact Or.inl y
  · exact Or.inr y
  · exact absurd (Or.inr y) k
theorem f_flag {N : Nat} {f : HF} (x : Int32) : DX10_isIn N x.toInt64 48 49 f = some (if x = 48 ∨ x = 49 then 1 else 0) := by
  rw [show (48 : Int64) = (48 : Int32).toInt64 from rfl, show (49 : Int64) = (49 : Int32).toInt64 from rfl, ii_eq]
  have : ((48 : Int32) ≤ x ∧ x ≤ (49 : Int32)) ↔ (x = 48 ∨ x = 49) := by
    rw [Int32.le_iff_toInt_le, Int32.le_iff_toInt_le, ← Int32.toInt_inj, ← Int32.toInt_inj, show (48 : Int32).toInt = 48 by decide, show (49 : Int32).toInt = 49 by decide]
    omega
  simp only [this]
theorem f_tv0 {N h : Nat} (hN : 10000 ≤ N) {σ : SG} {s : AS} (hM : RM σ s) (hI : Inv s) (hlen : ∀ q, q < 40 → (s.2.2.1 q 0).length ≤ 30 ∧ (s.2.2.1 q 1).length ≤ 12) (hl : (s.2.2.1 40 2).length ≤ 3000) {m : Nat} (hm : m < s.2.2.2) (hk0 : ¬ s.1 m 1 = 0) {a e : Nat} (ha : a ≤ e) (he : e ≤ (s.2.2.1 40 2).length) : ∃ τ b, DX10_takeValue N (h + 275) (nI m) (nI a) (nI e) 0 (HH h σ) = some (b, HH h τ) ∧ (b = 0 ∨ b = 1) ∧ (b = 1 ↔ okV s m (seg (s.2.2.1 40 2) a e)) ∧ RM τ s ∧ fm σ τ ∧ τ.1 275 0 = σ.1 275 0 := by
  have hn := hI.n40
  have hm4 : m < 40 := by omega
  have hL := seg_len ha he
  simp only [DX10_takeValue, r_ck, r_0, r_1, r_2, r_3, r_4, r_5, r_6, r_7, r_8, r_9, r_10, r_11, r_12, r_13, r_14, r_15, r_16, r_17, r_18, r_19, r_20, r_21, r_22, r_23, r_24, r_25, r_26, r_27, r_28, r_29, r_30, r_31, r_32, r_33, r_34, r_35, r_36, r_37, rp_0, rp_1, rp_26, rp_28, rp_30, rp_33, rp_35, rp_37, Option.bind_some, bRT, bRW, bWW, bW, le0, ne10, if_true, if_false, not_true_eq_false, not_false_eq_true, uI_at, uA_1, uB_1, uG_1, uI_2, f_isSigned hM hn hm, ite01, m_kind hM hn hm, f_most hM hn hm, nI_subI ha, DX10_takeValue_24]
  by_cases k : s.1 m 1 = 1 ∨ s.1 m 1 = 5
  · have n2 : ¬ s.1 m 1 = 2 := by rcases k with k | k <;> rw [k] <;> decide
    have n3 : ¬ (s.1 m 1 = 3 ∨ s.1 m 1 = 4) := by rcases k with k | k <;> rw [k] <;> decide
    obtain ⟨d, hd, hd2, _⟩ := rm_le hI hm
    have hrm : (rm s m).toNatClampNeg = d := by rw [hd2, nI_clamp (by omega)]
    have go : ∀ g : Int32, (g = 0 ∨ g = 1) → (g = 1 ↔ e - a ≤ d) → ∃ τ b, DX10_takeValue_29 N N (h + 275) (nI m) (nI a) (nI e) 0 g (nI a) (HH h σ) = some (b, HH h τ) ∧ (b = 0 ∨ b = 1) ∧ (b = 1 ↔ okV s m (seg (s.2.2.1 40 2) a e)) ∧ RM τ s ∧ fm σ τ ∧ τ.1 275 0 = σ.1 275 0 := fun g hg hg2 => by
      obtain ⟨b, b1, b2, b3⟩ := f_tv29 (N := N) (h := h) hM hn hl hm k he (nI a) 0 N a g ha (by omega) hg
      refine ⟨σ, b, by rw [b1, f_tv71_0 hN hm4 b2], b2, b3.trans ?_, hM, fm.rf, rfl⟩
      rw [hg2]
      constructor
      · rintro ⟨q1, q2⟩
        exact ⟨Or.inl ⟨k, by rw [hrm, hL]; exact q1, q2⟩, fun q => absurd q n3⟩
      · intro q
        rcases q.1 with q | q | q
        · have := q.2.1
          rw [hrm, hL] at this
          exact ⟨this, q.2.2⟩
        · exact absurd q.1 n2
        · exact absurd q.1 n3
    rw [if_neg (fun q => q k)]
    by_cases c : rm s m < nI (e - a)
    · rw [if_pos c]
      refine go 0 (Or.inl rfl) ⟨fun q => absurd q (by decide), fun q => ?_⟩
      rw [hd2] at c
      exact absurd c (nI_nlt q (by omega))
    · rw [if_neg c]
      refine go 1 (Or.inr rfl) ⟨fun _ => ?_, fun _ => rfl⟩
      rw [hd2, nI_ltI (by omega) (by omega)] at c
      omega
  · rw [if_pos k]
    by_cases k2 : s.1 m 1 = 2
    · have n3 : ¬ (s.1 m 1 = 3 ∨ s.1 m 1 = 4) := by rw [k2]; decide
      rw [if_pos k2]
      have out : ∀ X, okV s m X ↔ (X = [48] ∨ X = [49]) := fun X => ⟨fun q => by
        rcases q.1 with q | q | q
        · exact absurd q.1 k
        · exact q.2
        · exact absurd q.1 n3, fun q => ⟨Or.inr (Or.inl ⟨k2, q⟩), fun q => absurd q n3⟩⟩
      rw [out]
      have e176 : ∀ b : Int32, (b = 0 ∨ b = 1) → DX10_takeValue_176 N (h + 275) (nI m) (nI a) 0 b (HH h σ) = some (b, HH h σ) := fun b hb => by
        simp only [DX10_takeValue_176, DX10_takeValue_206, r_ck, r_0, r_1, r_2, r_3, r_4, r_5, r_6, r_7, r_8, r_9, r_10, r_11, r_12, r_13, r_14, r_15, r_16, r_17, r_18, r_19, r_20, r_21, r_22, r_23, r_24, r_25, r_26, r_27, r_28, r_29, r_30, r_31, r_32, r_33, r_34, r_35, r_36, r_37, rp_0, rp_1, rp_26, rp_28, rp_30, rp_33, rp_35, rp_37, Option.bind_some, bRT, bRW, bWW, bW, le0, ne10, if_true, if_false, not_true_eq_false, not_false_eq_true, uI_at, uA_1, uB_1, uG_1, uI_2, aN0 (k := 286) rfl (show m < ln 286 from hm4), sN0 (k := 286) rfl (show m < ln 286 from hm4), uA_self, if_pos hb]
      simp only [DX10_takeValue_175, e176 0 (Or.inl rfl), e176 1 (Or.inr rfl)]
      by_cases c : e - a = 1
      · rw [if_pos (show nI (e - a) = (1 : Int32) by rw [c]; rfl), seg1 c he]
        simp only [m_in hM (show a < (s.2.2.1 40 2).length by omega) hl, Option.bind_some, bRT, bRW, bWW, bW, le0, ne10, if_true, if_false, not_true_eq_false, not_false_eq_true, uI_at, uA_1, uB_1, uG_1, uI_2, f_flag, ite01]
        by_cases y : (s.2.2.1 40 2).getD a 0 = 48 ∨ (s.2.2.1 40 2).getD a 0 = 49
        · refine ⟨σ, 1, by rw [if_neg (fun q => q y)], Or.inr rfl, ⟨fun _ => ?_, fun _ => rfl⟩, hM, fm.rf, rfl⟩
          rcases y with y | y <;> rw [y] <;> simp
        · refine ⟨σ, 0, by rw [if_pos y], Or.inl rfl, ⟨fun q => absurd q (by decide), fun q => absurd ?_ y⟩, hM, fm.rf, rfl⟩
          rcases q with q | q
          · exact Or.inl (List.cons.inj q).1
          · exact Or.inr (List.cons.inj q).1
      · refine ⟨σ, 0, by rw [if_neg (show ¬ nI (e - a) = (1 : Int32) from fun q => c ((nI_eq (b := 1) (by omega) (by omega)).mp q))], Or.inl rfl, ⟨fun q => absurd q (by decide), fun q => ?_⟩, hM, fm.rf, rfl⟩
        rcases q with q | q <;> rw [q] at hL <;> simp at hL <;> omega
    · rw [if_neg k2]
      have k34 := k34_of hI hm hk0 k k2
      by_cases c : a = e
      · subst c
        rw [if_pos rfl, seg_nil]
        simp only [f_mayPick hM hn hm k34 (hlen m hm4).2, Option.bind_some, bRT, bRW, bWW, bW, le0, ne10, if_true, if_false, not_true_eq_false, not_false_eq_true, uI_at, uA_1, uB_1, uG_1, uI_2, ite01]
        have e234 : ∀ b : Int32, (b = 0 ∨ b = 1) → DX10_takeValue_234 N (h + 275) (nI m) 0 b (HH h σ) = some (b, HH h σ) := fun b hb => by
          simp only [DX10_takeValue_234, DX10_takeValue_256, r_ck, r_0, r_1, r_2, r_3, r_4, r_5, r_6, r_7, r_8, r_9, r_10, r_11, r_12, r_13, r_14, r_15, r_16, r_17, r_18, r_19, r_20, r_21, r_22, r_23, r_24, r_25, r_26, r_27, r_28, r_29, r_30, r_31, r_32, r_33, r_34, r_35, r_36, r_37, rp_0, rp_1, rp_26, rp_28, rp_30, rp_33, rp_35, rp_37, Option.bind_some, bRT, bRW, bWW, bW, le0, ne10, if_true, if_false, not_true_eq_false, not_false_eq_true, uI_at, uA_1, uB_1, uG_1, uI_2, aN0 (k := 286) rfl (show m < ln 286 from hm4), sN0 (k := 286) rfl (show m < ln 286 from hm4), uA_self, if_pos hb]
        simp only [DX10_takeValue_229, e234 0 (Or.inl rfl), e234 1 (Or.inr rfl), ne_eq, not_true_eq_false, false_and, or_false, true_and]
        by_cases y : mbn s m
        · exact ⟨σ, 1, by rw [if_neg (fun q => q y)], Or.inr rfl, ⟨fun _ => ⟨Or.inr (Or.inr ⟨k34, Or.inl rfl⟩), fun _ _ => y⟩, fun _ => rfl⟩, hM, fm.rf, rfl⟩
        · exact ⟨σ, 0, by rw [if_pos y], Or.inl rfl, ⟨fun q => absurd q (by decide), fun q => absurd (q.2 k34 rfl) y⟩, hM, fm.rf, rfl⟩
      · rw [if_neg (fun q => c ((nI_eq (by omega) (by omega)).mp q))]
        have hne : ¬ seg (s.2.2.1 40 2) a e = [] := fun q => by rw [q] at hL; simp at hL; omega
        obtain ⟨τ, b, t1, t2, t3, t4⟩ := f_tv263 (N := N) (h := h) hN hI hlen hl hm k34 ha he (tk := 0) (Or.inl rfl) N 0 σ (by have := (hlen m hm4).2; omega) (by omega) hM
        rw [nI_0] at t1
        rcases t4 with ⟨u1, u2, u3⟩ | ⟨u1, d, u2, u3, u4, u5, u6, u7⟩
        · refine ⟨τ, b, t1, Or.inl u1, ⟨fun q => by rw [u1] at q; exact absurd q (by decide), fun q => ?_⟩, u3, t2, t3⟩
          rcases q.1 with q | q | q
          · exact absurd q.1 k
          · exact absurd q.1 k2
          · rcases q.2 with q | ⟨x, q1, q2⟩
            · exact absurd q hne
            · obtain ⟨d, d1, _, d3, _⟩ := fnd_mem _ 0 q2
              exact absurd ((codes_pn hI hm d1).mpr ⟨x, q1, d3⟩) (u2 d (by omega) d1)
        · refine ⟨τ, b, t1, Or.inr u1, ⟨fun _ => ⟨Or.inr (Or.inr ⟨k34, Or.inr ?_⟩), fun _ q => absurd q hne⟩, fun _ => u1⟩, u6 rfl, t2, t3⟩
          obtain ⟨x, x1, x2⟩ := (codes_pn hI hm u3).mp u4
          exact ⟨x, x1, by rw [← x2]; exact getD_mem u3⟩
theorem f_tv1 {N h : Nat} (hN : 10000 ≤ N) {σ : SG} {s : AS} (hM : RM σ s) (hI : Inv s) (hlen : ∀ q, q < 40 → (s.2.2.1 q 0).length ≤ 30 ∧ (s.2.2.1 q 1).length ≤ 12) (hl : (s.2.2.1 40 2).length ≤ 3000) {m : Nat} (hm : m < s.2.2.2) (hk0 : ¬ s.1 m 1 = 0) {a e : Nat} (ha : a ≤ e) (he : e ≤ (s.2.2.1 40 2).length) (hok : okT s m (seg (s.2.2.1 40 2) a e)) : ∃ τ, DX10_takeValue N (h + 275) (nI m) (nI a) (nI e) 1 (HH h σ) = some (1, HH h τ) ∧ RM τ (tkV s m (seg (s.2.2.1 40 2) a e)) ∧ fm σ τ ∧ τ.1 275 0 = σ.1 275 0 := by
  have hn := hI.n40
  have hm4 : m < 40 := by omega
  have hL := seg_len ha he
  simp only [DX10_takeValue, r_ck, r_0, r_1, r_2, r_3, r_4, r_5, r_6, r_7, r_8, r_9, r_10, r_11, r_12, r_13, r_14, r_15, r_16, r_17, r_18, r_19, r_20, r_21, r_22, r_23, r_24, r_25, r_26, r_27, r_28, r_29, r_30, r_31, r_32, r_33, r_34, r_35, r_36, r_37, rp_0, rp_1, rp_26, rp_28, rp_30, rp_33, rp_35, rp_37, Option.bind_some, bRT, bRW, bWW, bW, le0, ne10, if_true, if_false, not_true_eq_false, not_false_eq_true, uI_at, uA_1, uB_1, uG_1, uI_2, f_isSigned hM hn hm, ite01, m_kind hM hn hm, f_most hM hn hm, nI_subI ha, DX10_takeValue_24, tkV]
  by_cases k : s.1 m 1 = 1 ∨ s.1 m 1 = 5
  · have n2 : ¬ s.1 m 1 = 2 := by rcases k with k | k <;> rw [k] <;> decide
    have n3 : ¬ (s.1 m 1 = 3 ∨ s.1 m 1 = 4) := by rcases k with k | k <;> rw [k] <;> decide
    obtain ⟨d, hd, hd2, _⟩ := rm_le hI hm
    have hrm : (rm s m).toNatClampNeg = d := by rw [hd2, nI_clamp (by omega)]
    obtain ⟨o1, o2⟩ : e - a ≤ d ∧ ∀ c ∈ seg (s.2.2.1 40 2) a e, sgn s m c := by
      rcases hok with q | q | q
      · have := q.2.1
        rw [hrm, hL] at this
        exact ⟨this, q.2.2⟩
      · exact absurd q.1 n2
      · exact absurd q.1 n3
    rw [if_neg (fun q => q k), if_pos k, if_neg (by rw [hd2]; exact nI_nlt o1 (by omega))]
    obtain ⟨b, b1, b2, b3⟩ := f_tv29 (N := N) (h := h) hM hn hl hm k he (nI a) 1 N a 1 ha (by omega) (Or.inr rfl)
    have hb := b3.mpr ⟨rfl, o2⟩
    subst hb
    obtain ⟨τ, t1, t2, t3, t4, t5, t6, t7, t8⟩ := f_tv71_1 (N := N) (h := h) (s := s) hl hm4 he (show e - a ≤ 30 by omega) (b := 1) (Or.inr rfl) N a σ (Nat.le_refl _) ha (by omega) (fun q hq => hM.inp.2 q hq)
    refine ⟨τ, by rw [b1, t1], ?_, fm.but t2 (by simp), by rw [t3]⟩
    refine hM.signs hlen hn hm (fun j _ _ => by rw [t3]) t4 (fun k _ _ h1 h2 _ _ _ _ => (t2.ag (by simp; omega)).2.2.1) (fun c hc => t8 c (fun i h1 h2 q => hc (by omega))) (fun c hc => t6 c hc) (by rw [t5, hL]) (fun j hj => ?_) (fun k hk => (t2.ag (by simp; omega)).2.2.1)
    rw [hL] at hj
    have := t7 (a + j) (by omega) (by omega)
    rw [show a + j - a = j by omega] at this
    rw [this, seg_get (by omega) he]
  · rw [if_pos k, if_neg k]
    by_cases k2 : s.1 m 1 = 2
    · have n3 : ¬ (s.1 m 1 = 3 ∨ s.1 m 1 = 4) := by rw [k2]; decide
      have hX : seg (s.2.2.1 40 2) a e = [48] ∨ seg (s.2.2.1 40 2) a e = [49] := by
        rcases hok with q | q | q
        · exact absurd q.1 k
        · exact q.2
        · exact absurd q.1 n3
      have c : e - a = 1 := by
        rcases hX with q | q <;> rw [q] at hL <;> simp at hL <;> omega
      have hga : (s.2.2.1 40 2).getD a 0 = 48 ∨ (s.2.2.1 40 2).getD a 0 = 49 := by
        rw [seg1 c he] at hX
        rcases hX with q | q
        · exact Or.inl (List.cons.inj q).1
        · exact Or.inr (List.cons.inj q).1
      rw [if_pos k2, if_pos k2, if_pos (show nI (e - a) = (1 : Int32) by rw [c]; rfl), seg1 c he]
      simp only [m_in hM (show a < (s.2.2.1 40 2).length by omega) hl, Option.bind_some, bRT, bRW, bWW, bW, le0, ne10, if_true, if_false, not_true_eq_false, not_false_eq_true, uI_at, uA_1, uB_1, uG_1, uI_2, f_flag, ite01]
      rw [if_neg (fun q => q hga)]
      simp only [DX10_takeValue_176, DX10_takeValue_206, r_ck, r_0, r_1, r_2, r_3, r_4, r_5, r_6, r_7, r_8, r_9, r_10, r_11, r_12, r_13, r_14, r_15, r_16, r_17, r_18, r_19, r_20, r_21, r_22, r_23, r_24, r_25, r_26, r_27, r_28, r_29, r_30, r_31, r_32, r_33, r_34, r_35, r_36, r_37, rp_0, rp_1, rp_26, rp_28, rp_30, rp_33, rp_35, rp_37, Option.bind_some, bRT, bRW, bWW, bW, le0, ne10, if_true, if_false, not_true_eq_false, not_false_eq_true, uI_at, uA_1, uB_1, uG_1, uI_2, m_in hM (show a < (s.2.2.1 40 2).length by omega) hl, sN0 (k := 286) rfl (show m < ln 286 from hm4), or_true]
      exact ⟨_, rfl, hM.pick hlen hn hm, fm.A (by omega), rfl⟩
    · rw [if_neg k2, if_neg k2]
      have k34 := k34_of hI hm hk0 k k2
      by_cases c : a = e
      · subst c
        rw [if_pos rfl, seg_nil, pn_nil]
        simp only [DX10_takeValue_229, DX10_takeValue_234, DX10_takeValue_256, r_ck, r_0, r_1, r_2, r_3, r_4, r_5, r_6, r_7, r_8, r_9, r_10, r_11, r_12, r_13, r_14, r_15, r_16, r_17, r_18, r_19, r_20, r_21, r_22, r_23, r_24, r_25, r_26, r_27, r_28, r_29, r_30, r_31, r_32, r_33, r_34, r_35, r_36, r_37, rp_0, rp_1, rp_26, rp_28, rp_30, rp_33, rp_35, rp_37, Option.bind_some, bRT, bRW, bWW, bW, le0, ne10, if_true, if_false, not_true_eq_false, not_false_eq_true, uI_at, uA_1, uB_1, uG_1, uI_2, sN0 (k := 286) rfl (show m < ln 286 from hm4), or_true]
        exact ⟨_, rfl, hM.pick hlen hn hm, fm.A (by omega), rfl⟩
      · rw [if_neg (fun q => c ((nI_eq (by omega) (by omega)).mp q))]
        have hne : ¬ seg (s.2.2.1 40 2) a e = [] := fun q => by rw [q] at hL; simp at hL; omega
        obtain ⟨x, x1, x2⟩ : ∃ x, pn (seg (s.2.2.1 40 2) a e) = some x ∧ nI x ∈ s.2.2.1 m 1 := by
          rcases hok with q | q | q
          · exact absurd q.1 k
          · exact absurd q.1 k2
          · exact q.2.resolve_left hne
        obtain ⟨d0, d1, d2, d3, d4⟩ := fnd_mem (s.2.2.1 m 1) 0 x2
        obtain ⟨τ, b, t1, t2, t3, t4⟩ := f_tv263 (N := N) (h := h) hN hI hlen hl hm k34 ha he (tk := 1) (Or.inr rfl) N 0 σ (by have := (hlen m hm4).2; omega) (by omega) hM
        rw [nI_0] at t1
        rcases t4 with ⟨u1, u2, u3⟩ | ⟨u1, d, u2, u3, u4, u5, u6, u7⟩
        · exact absurd ((codes_pn hI hm d1).mpr ⟨x, x1, d3⟩) (u2 d0 (by omega) d1)
        · have hd : d = d0 := by
            obtain ⟨x', x3, x4⟩ := (codes_pn hI hm u3).mp u4
            rw [x1, Option.some.injEq] at x3
            rw [← x3] at x4
            rcases Nat.lt_trichotomy d d0 with q | q | q
            · exact absurd x4 (d4 d q)
            · exact q
            · exact absurd ((codes_pn hI hm d1).mpr ⟨x, x1, d3⟩) (u5 d0 (by omega) q)
          refine ⟨τ, by rw [t1, u1], ?_, t2, t3⟩
          rw [x1]
          show RM τ (sA s m 10 (fnd (nI x) (s.2.2.1 m 1) 0))
          rw [d2, Nat.zero_add, ← hd]
          exact u7 rfl
