/-! READING: names, in the reference -/
theorem uA_self (σ : SG) (k j : Nat) : uA σ k j (σ.2.2.1 k j) = σ := by
  obtain ⟨a, b, c, d⟩ := σ
  unfold uA
  congr 1
  congr 1
  congr 1
  funext k' j'
  by_cases e : k' = k ∧ j' = j
  · rw [if_pos e, e.1, e.2]
  · rw [if_neg e]
theorem m_in {h : Nat} {σ : SG} {s : AS} (hM : RM σ s) {j : Nat} (hj : j < (s.2.2.1 40 2).length) (hl : (s.2.2.1 40 2).length ≤ 3000) : aI (HH h σ) (h + 305) 0 (nI j) = some ((s.2.2.1 40 2).getD j 0) := by
  rw [aN0 (k := 305) rfl (show j < ln 305 from show _ < 3000 by omega), hM.inp.2 j hj]
theorem f_bn103 {N h : Nat} {σ : SG} {s : AS} (hM : RM σ s) (hl : (s.2.2.1 40 2).length ≤ 3000) {Y : List Int32} (hk : σ.1 275 28 = nI Y.length) (hY : ∀ c, c < Y.length → σ.2.2.1 300 c = Y.getD c 0) (hYl : Y.length ≤ 64) (k33 : Nat → Int32 → Int32 → Int32 → HF → Option (Int32 × HF)) (v2 v5 : Int32) : ∀ (w t a : Nat), Y.length - t < w → t ≤ Y.length → a ≤ (s.2.2.1 40 2).length → ((∃ R, (s.2.2.1 40 2).drop a = Y.drop t ++ R) ∧ DX10_behindName_103 N k33 w (h + 275) v2 (nI a) v5 (nI t) (HH h σ) = k33 (h + 275) v2 (nI (a + (Y.length - t))) (v5 + (-1)) (HH h σ)) ∨ ((¬ ∃ R, (s.2.2.1 40 2).drop a = Y.drop t ++ R) ∧ DX10_behindName_103 N k33 w (h + 275) v2 (nI a) v5 (nI t) (HH h σ) = some (-1, HH h σ)) := by
  intro w
  induction w with
  | zero => intro t a hw; omega
  | succ w ih =>
    intro t a hw ht ha
    simp only [DX10_behindName_103, r_ck, r_0, r_1, r_2, r_3, r_4, r_5, r_6, r_7, r_8, r_9, r_10, r_11, r_12, r_13, r_14, r_15, r_16, r_17, r_18, r_19, r_20, r_21, r_22, r_23, r_24, r_25, r_26, r_27, r_28, r_29, r_30, r_31, r_32, r_33, r_34, r_35, r_36, r_37, rp_0, rp_1, rp_26, rp_28, rp_30, rp_33, rp_35, rp_37, Option.bind_some, bRT, bRW, bWW, bW, le0, ne10, if_true, if_false, not_true_eq_false, not_false_eq_true, uI_at, uA_1, uB_1, uG_1, uI_2, hk, hM.inp.1]
    by_cases z : Y.length ≤ t
    · obtain rfl : t = Y.length := by omega
      rw [if_pos (nI_le z (by omega)), Nat.sub_self, Nat.add_zero]
      exact Or.inl ⟨⟨_, by rw [List.drop_length]; rfl⟩, rfl⟩
    · have hlt : t < Y.length := by omega
      rw [if_neg (nI_ge hlt (by omega)), drop_cons hlt]
      by_cases c : (s.2.2.1 40 2).length ≤ a
      · rw [if_pos (nI_le c (by omega))]
        refine Or.inr ⟨fun ⟨R, q⟩ => ?_, rfl⟩
        rw [List.drop_eq_nil_of_le c] at q
        exact absurd q (by simp)
      · have hal : a < (s.2.2.1 40 2).length := by omega
        rw [if_neg (nI_ge hal (by omega)), drop_cons hal]
        simp only [m_in hM hal hl, Option.bind_some, bRT, bRW, bWW, bW, le0, ne10, if_true, if_false, not_true_eq_false, not_false_eq_true, uI_at, uA_1, uB_1, uG_1, uI_2, aN0 (k := 300) rfl (show t < ln 300 from show _ < 64 by omega), hY t hlt, nI_1]
        by_cases e : (s.2.2.1 40 2).getD a 0 = Y.getD t 0
        · rw [if_pos e]
          rcases ih (t + 1) (a + 1) (by omega) (by omega) (by omega) with ⟨⟨R, q1⟩, q2⟩ | ⟨q1, q2⟩
          · refine Or.inl ⟨⟨R, by rw [q1, e]; rfl⟩, ?_⟩
            rw [q2, show a + 1 + (Y.length - (t + 1)) = a + (Y.length - t) by omega]
          · refine Or.inr ⟨fun ⟨R, q⟩ => q1 ⟨R, (List.cons.inj q).2⟩, q2⟩
        · rw [if_neg e]
          exact Or.inr ⟨fun ⟨R, q⟩ => e (List.cons.inj q).1, rfl⟩
theorem f_bn44 {N h : Nat} {σ : SG} {s : AS} (hM : RM σ s) (hI : Inv s) {m : Nat} (hm : m < s.2.2.2) (kk : Nat → Int32 → Int32 → Int32 → HF → Option (Int32 × HF)) (v4 : Int32) {k : Nat} (hk : k < dpt s m) : ∀ (w t : Nat), t ≤ k → k - t < w → ∃ w', DX10_behindName_44 N kk w (h + 275) (nI m) v4 (nI k) (nI (anc s m t)) (nI t) (HH h σ) = DX10_behindName_44 N kk (w' + 1) (h + 275) (nI m) v4 (nI k) (nI (anc s m k)) (nI k) (HH h σ) := by
  have hn := hI.n40
  obtain ⟨d1, d2, d3, d4, d5⟩ := hI.DP hm
  intro w
  induction w with
  | zero => intro t _ hw; omega
  | succ w ih =>
    intro t ht hw
    by_cases z : t = k
    · subst z
      exact ⟨w, rfl⟩
    · obtain ⟨w', e⟩ := ih (t + 1) (by omega) (by omega)
      refine ⟨w', ?_⟩
      rw [DX10_behindName_44, if_neg (nI_ge (by omega) (by omega))]
      simp only [r_ck, r_0, r_1, r_2, r_3, r_4, r_5, r_6, r_7, r_8, r_9, r_10, r_11, r_12, r_13, r_14, r_15, r_16, r_17, r_18, r_19, r_20, r_21, r_22, r_23, r_24, r_25, r_26, r_27, r_28, r_29, r_30, r_31, r_32, r_33, r_34, r_35, r_36, r_37, rp_0, rp_1, rp_26, rp_28, rp_30, rp_33, rp_35, rp_37, Option.bind_some, bRT, bRW, bWW, bW, le0, ne10, if_true, if_false, not_true_eq_false, not_false_eq_true, uI_at, uA_1, uB_1, uG_1, uI_2, m_par hM hn (d1 t (by omega)).1, (d2 t (by omega)).1, nI_1]
      exact e
def nmx (U : Nat → Nat) : Nat → List Int32
  | 0 => []
  | j + 1 => (numL (U j) false ++ [if 0 < j then 46 else 61]) ++ nmx U j
theorem nmx_eq {U : Nat → Nat} : ∀ d, 0 < d → nmx U d = upL U d ++ [61]
  | 0, h => by omega
  | 1, _ => by simp [nmx, upL]
  | d + 2, _ => by
    show (numL (U (d + 1)) false ++ [if 0 < d + 1 then 46 else 61]) ++ nmx U (d + 1) = (numL (U (d + 1)) false ++ ((if 0 < d + 1 then [46] else []) ++ upL U (d + 1))) ++ [61]
    rw [nmx_eq (d + 1) (by omega), if_pos (show 0 < d + 1 by omega), if_pos (show 0 < d + 1 by omega)]
    simp [List.append_assoc]
theorem f_bn33 {N h : Nat} (hN : 10000 ≤ N) {s : AS} (hI : Inv s) (hl : (s.2.2.1 40 2).length ≤ 3000) {m : Nat} (hm : m < s.2.2.2) : ∀ (j w a : Nat) (σ : SG), j ≤ dpt s m → j < w → RM σ s → a ≤ (s.2.2.1 40 2).length → ∃ τ r, DX10_behindName_33 N w (h + 275) (nI m) (nI a) (nI j - 1) (HH h σ) = some (r, HH h τ) ∧ RM τ s ∧ fm σ τ ∧ τ.1 275 0 = σ.1 275 0 ∧ (((∃ R, (s.2.2.1 40 2).drop a = nmx (nmf s m) j ++ R) ∧ r = nI (a + (nmx (nmf s m) j).length)) ∨ ((¬ ∃ R, (s.2.2.1 40 2).drop a = nmx (nmf s m) j ++ R) ∧ r = -1)) := by
  have hn := hI.n40
  obtain ⟨d1, d2, d3, d4, d5⟩ := hI.DP hm
  intro j
  induction j with
  | zero =>
    intro w a σ _ hw hM _
    obtain ⟨w', rfl⟩ : ∃ w', w = w' + 1 := ⟨w - 1, by omega⟩
    refine ⟨σ, nI a, ?_, hM, fm.rf, rfl, Or.inl ⟨⟨_, rfl⟩, rfl⟩⟩
    rw [DX10_behindName_33, if_pos (by rw [nI_0]; decide)]
  | succ j ih =>
    intro w a σ hj hw hM ha
    obtain ⟨w', rfl⟩ : ∃ w', w = w' + 1 := ⟨w - 1, by omega⟩
    have hnm := nmf_le hI hm (show j < dpt s m by omega)
    have hnl := numL_f (n := nmf s m j) (k := 3) (by omega) (by omega)
    obtain ⟨w2, e44⟩ := f_bn44 (N := N) (h := h) hM hI hm (DX10_behindName_33 N w') (nI a) (k := j) (by omega) N 0 (by omega) (by omega)
    rw [nI_0, show anc s m 0 = m from rfl] at e44
    obtain ⟨m1, m2⟩ := mr0 σ
    have hnum := e_putNumber (N := N) (h := h) (m := nmf s m j) (cm := 0) (σ := uI σ 275 28 0) hN (by omega) m1 (by rw [show (!decide ((0 : Int32) = 0)) = false from rfl]; omega)
    rw [show (!decide ((0 : Int32) = 0)) = false from rfl] at hnum
    obtain ⟨k1, r1⟩ := mstep m1 (numL (nmf s m j) false) (by omega)
    have hM1 := hM.rsz 0
    have hname : aI (HH h (uI σ 275 28 0)) (h + 278) 0 (nI (anc s m j)) = some (nI (nmf s m j)) := by
      have := m_name (h := h) hM1 hn (d1 j (by omega)).1
      rw [this]
      exact congrArg some hnm.2
    obtain ⟨Y, hYe⟩ : ∃ Y, Y = numL (nmf s m j) false ++ [if 0 < j then 46 else 61] := ⟨_, rfl⟩
    have hYl : Y.length ≤ 4 := by rw [hYe]; simp; omega
    have hml : mlist (mapp (uI σ 275 28 0) Y) = Y := by rw [mapp_list _ (by omega), mlist_0]; rfl
    obtain ⟨k2, r2⟩ := mstep m1 Y (by omega)
    rw [m2, Nat.zero_add] at r2
    have hM2 : RM (mapp (uI σ 275 28 0) Y) s := hM1.mapp Y
    have h44 : DX10_behindName_44 N (DX10_behindName_33 N w') (w2 + 1) (h + 275) (nI m) (nI a) (nI j) (nI (anc s m j)) (nI j) (HH h σ) = DX10_behindName_103 N (DX10_behindName_33 N w') N (h + 275) (nI m) (nI a) (nI j) 0 (HH h (mapp (uI σ 275 28 0) Y)) := by
      rw [DX10_behindName_44, if_pos (nI_le (Nat.le_refl j) (by omega))]
      simp only [r_ck, r_0, r_1, r_2, r_3, r_4, r_5, r_6, r_7, r_8, r_9, r_10, r_11, r_12, r_13, r_14, r_15, r_16, r_17, r_18, r_19, r_20, r_21, r_22, r_23, r_24, r_25, r_26, r_27, r_28, r_29, r_30, r_31, r_32, r_33, r_34, r_35, r_36, r_37, rp_0, rp_1, rp_26, rp_28, rp_30, rp_33, rp_35, rp_37, Option.bind_some, bRT, bRW, bWW, bW, le0, ne10, if_true, if_false, not_true_eq_false, not_false_eq_true, uI_at, uA_1, uB_1, uG_1, uI_2, hname, nI_l (show nmf s m j < 2 ^ 31 by omega), hnum, DX10_behindName_97]
      rw [hYe, mapp_app]
      by_cases z : 0 < j
      · rw [if_neg (nI_nle z (by omega)), e_put k1 (by omega), if_pos z]
        rfl
      · rw [if_pos (by rw [show j = 0 by omega, nI_0]; decide), e_put k1 (by omega), if_neg z]
        rfl
    have hfm : fm σ (mapp (uI σ 275 28 0) Y) := mapp_fm
    have h0 : (mapp (uI σ 275 28 0) Y).1 275 0 = σ.1 275 0 := by rw [mapp_I (by omega), uI_ne _ _ _ _ (by omega)]
    have hx : nmx (nmf s m) (j + 1) = Y ++ nmx (nmf s m) j := by rw [hYe]; rfl
    have hstep : DX10_behindName_33 N (w' + 1) (h + 275) (nI m) (nI a) (nI (j + 1) - 1) (HH h σ) = DX10_behindName_103 N (DX10_behindName_33 N w') N (h + 275) (nI m) (nI a) (nI j) 0 (HH h (mapp (uI σ 275 28 0) Y)) := by
      rw [DX10_behindName_33, nI_b1, if_neg (nI_pos (by omega)), e44, h44]
    have h103 := f_bn103 (N := N) (h := h) hM2 hl (Y := Y) (by rw [k2.1, r2]) (fun c hc => by rw [mlist_get (by omega), hml]) (by omega) (DX10_behindName_33 N w') (nI m) (nI j) N 0 a (by omega) (by omega) ha
    rw [nI_0, List.drop_zero, Nat.sub_zero] at h103
    rcases h103 with ⟨⟨R, q1⟩, q2⟩ | ⟨q1, q2⟩
    · have hal : a + Y.length ≤ (s.2.2.1 40 2).length := by
        have := congrArg List.length q1
        rw [List.length_drop, List.length_append] at this
        omega
      obtain ⟨τ, r, t1, t2, t3, t4, t5⟩ := ih w' (a + Y.length) (mapp (uI σ 275 28 0) Y) (by omega) (by omega) hM2 hal
      refine ⟨τ, r, ?_, t2, hfm.tr t3, by rw [t4, h0], ?_⟩
      · rw [hstep, q2, nI_m1]
        exact t1
      · rw [hx]
        have e1 := drop_of q1
        rcases t5 with ⟨⟨R', u1⟩, u2⟩ | ⟨u1, u2⟩
        · refine Or.inl ⟨⟨R', ?_⟩, ?_⟩
          · rw [q1, ← e1, u1, List.append_assoc]
          · rw [u2, List.length_append, Nat.add_assoc]
        · refine Or.inr ⟨fun ⟨R', u⟩ => u1 ⟨R', ?_⟩, u2⟩
          rw [List.append_assoc] at u
          exact drop_of u
    · refine ⟨mapp (uI σ 275 28 0) Y, -1, by rw [hstep, q2], hM2, hfm, h0, Or.inr ⟨fun ⟨R, u⟩ => q1 ⟨nmx (nmf s m) j ++ R, ?_⟩, rfl⟩⟩
      rw [u, hx, List.append_assoc]
theorem f_bn5 {N h : Nat} {σ : SG} {s : AS} (hM : RM σ s) (hI : Inv s) {m : Nat} (hm : m < s.2.2.2) (v1 : Int32) : ∀ (w k : Nat) (v : Int32), dpt s m - k < w → k ≤ dpt s m → (k < dpt s m → v = nI (anc s m k)) → (k = dpt s m → v = -1) → DX10_behindName_5 N w (h + 275) v1 (nI m) (nI k) v (HH h σ) = DX10_behindName_33 N N (h + 275) (nI m) v1 (nI (dpt s m) - 1) (HH h σ) := by
  have hn := hI.n40
  obtain ⟨d1, d2, d3, d4, d5⟩ := hI.DP hm
  intro w
  induction w with
  | zero => intro k v hw; omega
  | succ w ih =>
    intro k v hw hk h1 h2
    rw [DX10_behindName_5]
    by_cases z : k = dpt s m
    · rw [h2 z, if_pos (by decide), z]
    · have hlt : k < dpt s m := by omega
      have ha := (d1 k hlt).1
      rw [h1 hlt, if_neg (nI_pos (by omega))]
      simp only [r_ck, r_0, r_1, r_2, r_3, r_4, r_5, r_6, r_7, r_8, r_9, r_10, r_11, r_12, r_13, r_14, r_15, r_16, r_17, r_18, r_19, r_20, r_21, r_22, r_23, r_24, r_25, r_26, r_27, r_28, r_29, r_30, r_31, r_32, r_33, r_34, r_35, r_36, r_37, rp_0, rp_1, rp_26, rp_28, rp_30, rp_33, rp_35, rp_37, Option.bind_some, bRT, bRW, bWW, bW, le0, ne10, if_true, if_false, not_true_eq_false, not_false_eq_true, uI_at, uA_1, uB_1, uG_1, uI_2, m_par hM hn ha, nI_1]
      exact ih (k + 1) _ (by omega) (by omega) (fun q => (d2 k q).1) (fun q => by rw [show k = dpt s m - 1 by omega]; exact d4)
theorem f_behind {N h : Nat} (hN : 10000 ≤ N) {σ : SG} {s : AS} (hM : RM σ s) (hI : Inv s) (hl : (s.2.2.1 40 2).length ≤ 3000) {m p : Nat} (hm : m < s.2.2.2) (hp : p ≤ (s.2.2.1 40 2).length) : ∃ τ r, DX10_behindName N (h + 275) (nI p) (nI m) (HH h σ) = some (r, HH h τ) ∧ RM τ s ∧ fm σ τ ∧ τ.1 275 0 = σ.1 275 0 ∧ ((pre s p m ∧ r = nI (p + (spl s m).length + 1)) ∨ (¬ pre s p m ∧ r = -1)) := by
  have hn := hI.n40
  obtain ⟨d1, d2, d3, d4, d5⟩ := hI.DP hm
  obtain ⟨τ, r, t1, t2, t3, t4, t5⟩ := f_bn33 (N := N) (h := h) hN hI hl hm (dpt s m) N p σ (Nat.le_refl _) (by omega) hM hp
  have b5 := f_bn5 (N := N) (h := h) hM hI hm (nI p) N 0 (nI m) (by omega) (by omega) (fun _ => rfl) (fun q => by omega)
  rw [nI_0] at b5
  have hiff : (∃ R, (s.2.2.1 40 2).drop p = nmx (nmf s m) (dpt s m) ++ R) ↔ pre s p m := by
    unfold pre spl
    rw [nmx_eq _ d3]
    constructor
    · rintro ⟨R, q⟩
      exact ⟨R, by rw [q]; simp⟩
    · rintro ⟨R, q⟩
      exact ⟨R, by rw [q]; simp⟩
  refine ⟨τ, r, by simp only [DX10_behindName, r_ck, Option.bind_some, bRT, bRW, bWW, bW, le0, ne10, if_true, if_false, not_true_eq_false, not_false_eq_true, uI_at, uA_1, uB_1, uG_1, uI_2, b5, t1], t2, t3, t4, ?_⟩
  rw [hiff] at t5
  rcases t5 with ⟨q1, q2⟩ | ⟨q1, q2⟩
  · refine Or.inl ⟨q1, ?_⟩
    rw [q2, nmx_eq _ d3, List.length_append, ← Nat.add_assoc]
    rfl
  · exact Or.inr ⟨q1, q2⟩
