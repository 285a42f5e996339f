/-! RINGS, in the reference -/
theorem f_un7 {N h : Nat} {σ : SG} {s : AS} (hM : RM σ s) (hI : Inv s) {f : Nat} (hf : f < s.2.2.2) {g : Nat} (hg : g < s.2.2.2) : ∀ (w k : Nat) (v : Int32), dpt s f - k < w → k < dpt s f → (k + 1 < dpt s f → v = nI (anc s f (k + 1))) → (k + 1 = dpt s f → v = -1) → ∃ b : Int32, DX10_isUnder_7 N (HH h σ) w (h + 275) (nI g) v = some b ∧ (b = 0 ∨ b = 1) ∧ (b = 1 ↔ ∃ k', k ≤ k' ∧ k' + 1 < dpt s f ∧ nI (anc s f (k' + 1)) = nI g) := by
  have hn := hI.n40
  obtain ⟨d1, d2, d3, d4, d5⟩ := hI.DP hf
  intro w
  induction w with
  | zero => intro k v hw; omega
  | succ w ih =>
    intro k v hw hk h1 h2
    rw [DX10_isUnder_7]
    unfold DX10_isUnder_26
    by_cases z : k + 1 = dpt s f
    · refine ⟨0, by rw [h2 z, if_pos (by decide), if_neg (fun q => nI_nm1 (show g < 2 ^ 31 by omega) q.symm)], Or.inl rfl, ⟨fun q => absurd q (by decide), fun ⟨k', a, b, _⟩ => by omega⟩⟩
    · have hk1 : k + 1 < dpt s f := by omega
      have ha := (d1 (k + 1) hk1).1
      rw [h1 hk1, if_neg (nI_pos (by omega))]
      by_cases e : nI (anc s f (k + 1)) = nI g
      · exact ⟨1, by rw [if_pos e, if_pos e], Or.inr rfl, ⟨fun _ => ⟨k, Nat.le_refl _, hk1, e⟩, fun _ => rfl⟩⟩
      · obtain ⟨b, b1, b2, b3⟩ := ih (k + 1) (s.1 (anc s f (k + 1)) 2) (by omega) hk1 (fun q => (d2 (k + 1) q).1) (fun q => by rw [show k + 1 = dpt s f - 1 by omega]; exact d4)
        refine ⟨b, ?_, b2, b3.trans ⟨fun ⟨k', x, y, z⟩ => ⟨k', by omega, y, z⟩, fun ⟨k', x, y, e'⟩ => ⟨k', ?_, y, e'⟩⟩⟩
        · rw [if_neg e]
          simp only [r_ck, r_0, r_1, r_2, r_3, r_4, r_5, r_6, r_7, r_8, r_9, r_10, r_11, r_12, r_13, r_14, r_15, r_16, r_17, r_18, r_19, r_20, r_21, r_22, r_23, r_24, r_25, r_26, r_27, r_28, r_29, r_30, r_31, r_32, r_33, r_34, r_35, r_36, r_37, rp_0, rp_1, rp_26, rp_28, rp_30, rp_33, rp_35, rp_37, Option.bind_some, bRT, bRW, bWW, bW, le0, ne10, if_true, if_false, not_true_eq_false, not_false_eq_true, uI_at, uA_1, uB_1, uG_1, uI_2, m_par hM hn ha]
          exact b1
        · rcases Nat.lt_or_ge k k' with q | q
          · omega
          · obtain rfl : k' = k := by omega
            exact absurd e' e
theorem f_under {N h : Nat} (hN : 10000 ≤ N) {σ : SG} {s : AS} (hM : RM σ s) (hI : Inv s) {f g : Nat} (hf : f < s.2.2.2) (hg : g < s.2.2.2) : ∃ b : Int32, DX10_isUnder N (h + 275) (nI f) (nI g) (HH h σ) = some b ∧ (b = 0 ∨ b = 1) ∧ (b = 1 ↔ und s f (nI g)) := by
  have hn := hI.n40
  obtain ⟨d1, d2, d3, d4, d5⟩ := hI.DP hf
  obtain ⟨b, b1, b2, b3⟩ := f_un7 (N := N) (h := h) hM hI hf hg N 0 (s.1 f 2) (by omega) d3 (fun q => (d2 0 q).1) (fun q => by have := d4; rw [show dpt s f - 1 = 0 by omega] at this; exact this)
  refine ⟨b, ?_, b2, b3.trans ⟨fun ⟨k', _, y, z⟩ => ⟨k', y, z⟩, fun ⟨k', y, z⟩ => ⟨k', by omega, y, z⟩⟩⟩
  simp only [DX10_isUnder, r_ck, r_0, r_1, r_2, r_3, r_4, r_5, r_6, r_7, r_8, r_9, r_10, r_11, r_12, r_13, r_14, r_15, r_16, r_17, r_18, r_19, r_20, r_21, r_22, r_23, r_24, r_25, r_26, r_27, r_28, r_29, r_30, r_31, r_32, r_33, r_34, r_35, r_36, r_37, rp_0, rp_1, rp_26, rp_28, rp_30, rp_33, rp_35, rp_37, Option.bind_some, bRT, bRW, bWW, bW, le0, ne10, if_true, if_false, not_true_eq_false, not_false_eq_true, uI_at, uA_1, uB_1, uG_1, uI_2, m_par hM hn hf, b1]
theorem f_has2 {N h : Nat} (hN : 10000 ≤ N) {σ : SG} {s : AS} (hM : RM σ s) (hI : Inv s) {g o : Nat} (hg : g < s.2.2.2) : ∀ (w j : Nat), s.2.2.2 - j < w → j ≤ s.2.2.2 → ∃ b : Int32, DX10_has_2 N (HH h σ) w (h + 275) (nI g) (nI o) (nI j) = some b ∧ (b = 0 ∨ b = 1) ∧ (b = 1 ↔ ∃ f, j ≤ f ∧ f < s.2.2.2 ∧ s.1 f 1 = 5 ∧ s.1 f 4 = nI o ∧ und s f (nI g)) := by
  have hn := hI.n40
  intro w
  induction w with
  | zero => intro j hw; omega
  | succ w ih =>
    intro j hw hj
    simp only [DX10_has_2, DX10_has_41, r_ck, r_0, r_1, r_2, r_3, r_4, r_5, r_6, r_7, r_8, r_9, r_10, r_11, r_12, r_13, r_14, r_15, r_16, r_17, r_18, r_19, r_20, r_21, r_22, r_23, r_24, r_25, r_26, r_27, r_28, r_29, r_30, r_31, r_32, r_33, r_34, r_35, r_36, r_37, rp_0, rp_1, rp_26, rp_28, rp_30, rp_33, rp_35, rp_37, Option.bind_some, bRT, bRW, bWW, bW, le0, ne10, if_true, if_false, not_true_eq_false, not_false_eq_true, uI_at, uA_1, uB_1, uG_1, uI_2, hM.nn]
    by_cases z : s.2.2.2 ≤ j
    · exact ⟨0, by rw [if_pos (nI_le z (by omega))], Or.inl rfl, ⟨fun q => absurd q (by decide), fun ⟨f, h1, h2, _⟩ => by omega⟩⟩
    · have hlt : j < s.2.2.2 := by omega
      rw [if_neg (nI_ge hlt (by omega))]
      simp only [m_fst hM hn hlt, m_kind hM hn hlt, Option.bind_some, bRT, bRW, bWW, bW, le0, ne10, if_true, if_false, not_true_eq_false, not_false_eq_true, uI_at, uA_1, uB_1, uG_1, uI_2, nI_1]
      have skip : ¬ (s.1 j 1 = 5 ∧ s.1 j 4 = nI o ∧ und s j (nI g)) → ∃ b : Int32, DX10_has_2 N (HH h σ) w (h + 275) (nI g) (nI o) (nI (j + 1)) = some b ∧ (b = 0 ∨ b = 1) ∧ (b = 1 ↔ ∃ f, j ≤ f ∧ f < s.2.2.2 ∧ s.1 f 1 = 5 ∧ s.1 f 4 = nI o ∧ und s f (nI g)) := fun hno => by
        obtain ⟨b, b1, b2, b3⟩ := ih (j + 1) (by omega) (by omega)
        refine ⟨b, b1, b2, b3.trans ⟨fun ⟨f, x, y⟩ => ⟨f, by omega, y⟩, fun ⟨f, x, y⟩ => ?_⟩⟩
        rcases Nat.lt_or_ge j f with e | e
        · exact ⟨f, by omega, y⟩
        · obtain rfl : f = j := by omega
          exact absurd y.2 hno
      by_cases a : s.1 j 4 = nI o
      · rw [if_pos a]
        by_cases k5 : s.1 j 1 = 5
        · rw [if_pos k5]
          obtain ⟨b, b1, b2, b3⟩ := f_under (N := N) (h := h) hN hM hI hlt hg
          rw [b1]
          simp only [Option.bind_some, bRT, bRW, bWW, bW, le0, ne10, if_true, if_false, not_true_eq_false, not_false_eq_true, uI_at, uA_1, uB_1, uG_1, uI_2]
          rcases b2 with rfl | rfl
          · rw [if_pos rfl]
            exact skip (fun q => absurd (b3.mpr q.2.2) (by decide))
          · exact ⟨1, by rw [if_neg (by decide)], Or.inr rfl, ⟨fun _ => ⟨j, Nat.le_refl _, hlt, k5, a, b3.mp rfl⟩, fun _ => rfl⟩⟩
        · rw [if_neg k5]
          exact skip (fun q => k5 q.1)
      · rw [if_neg a]
        exact skip (fun q => a q.2.1)
theorem f_has {N h : Nat} (hN : 10000 ≤ N) {σ : SG} {s : AS} (hM : RM σ s) (hI : Inv s) {g : Nat} (hg : g < s.2.2.2) (o : Nat) : ∃ b : Int32, DX10_has N (h + 275) (nI g) (nI o) (HH h σ) = some b ∧ (b = 0 ∨ b = 1) ∧ (b = 1 ↔ hsP s (nI g) o) := by
  have hn := hI.n40
  obtain ⟨b, b1, b2, b3⟩ := f_has2 (N := N) (h := h) hN hM hI (o := o) hg N 0 (by omega) (by omega)
  refine ⟨b, ?_, b2, b3.trans ⟨fun ⟨f, _, y⟩ => ⟨f, y⟩, fun ⟨f, y⟩ => ⟨f, by omega, y⟩⟩⟩
  rw [nI_0] at b1
  simp only [DX10_has, r_ck, Option.bind_some, bRT, bRW, bWW, bW, le0, ne10, if_true, if_false, not_true_eq_false, not_false_eq_true, uI_at, uA_1, uB_1, uG_1, uI_2, b1]
theorem f_isF {N h : Nat} {σ : SG} {s : AS} (hM : RM σ s) (hI : Inv s) {m : Nat} (hm : m < s.2.2.2) : DX10_isFormula N (h + 275) (nI m) (HH h σ) = some (if s.1 m 13 = -1 then 0 else 1) := by
  have hn := hI.n40
  simp only [DX10_isFormula, r_ck, r_0, r_1, r_2, r_3, r_4, r_5, r_6, r_7, r_8, r_9, r_10, r_11, r_12, r_13, r_14, r_15, r_16, r_17, r_18, r_19, r_20, r_21, r_22, r_23, r_24, r_25, r_26, r_27, r_28, r_29, r_30, r_31, r_32, r_33, r_34, r_35, r_36, r_37, rp_0, rp_1, rp_26, rp_28, rp_30, rp_33, rp_35, rp_37, Option.bind_some, bRT, bRW, bWW, bW, le0, ne10, if_true, if_false, not_true_eq_false, not_false_eq_true, uI_at, uA_1, uB_1, uG_1, uI_2, hM.nn, m_fst hM hn hm, m_kind hM hn hm, m_op hM hn hm]
  rw [if_neg (nI_ge hm (by omega))]
  rcases (hI.O hm).1 with q | ⟨⟨o, ho, q⟩, k, f⟩
  · rw [q, if_pos rfl]
    simp only [ltm0, Option.bind_some, bRT, bRW, bWW, bW, le0, ne10, if_true, if_false, not_true_eq_false, not_false_eq_true, uI_at, uA_1, uB_1, uG_1, uI_2]
    split
    · split <;> rfl
    · rfl
  · rw [if_pos f, if_pos k, q, if_neg (nI_pos (by omega)), if_neg (nI_nm1 (by omega))]
def ndF (s : AS) (m o : Nat) : Prop := isF s m ∧ isF s o ∧ ndC s m o
theorem n40m (m o : Nat) : (40 : Int32) * nI m + nI o = nI (40 * m + o) := by
  rw [show (40 : Int32) = nI 40 from rfl, nI_mul, nI_add]
theorem RM.n297 {σ τ : SG} {s : AS} (h : RM σ s) (hq : sbut [297] σ τ) : RM τ s :=
  h.work (fun j _ _ => by rw [(hq.ag (k := 275) (by simp)).1]) (fun k _ _ h1 _ _ _ => (hq.ag (k := k) (by simp; omega)).2.2.1) ⟨(hq.ag (k := 290) (by simp)).2.2.2, (hq.ag (k := 291) (by simp)).2.2.2⟩
theorem f_learn1 {N h : Nat} (hN : 10000 ≤ N) {σ : SG} {s : AS} (hM : RM σ s) (hI : Inv s) {m o : Nat} (hm : m < s.2.2.2) (ho : o < s.2.2.2) (k2 : Nat → Int32 → HF → Option (Unit × HF)) (w : Nat) : ∃ b : Int32, (b = 0 ∨ b = 1) ∧ (b = 1 ↔ ndF s m o) ∧ DX10_learn_12 N k2 (w + 1) (h + 275) (nI m) (nI o) (HH h σ) = DX10_learn_12 N k2 w (h + 275) (nI m) (nI (o + 1)) (HH h (uA σ 297 (40 * m + o) b)) := by
  have hn := hI.n40
  have hs : ∀ b : Int32, sI (HH h σ) (h + 297) 2 (nI (40 * m + o)) b = some (HH h (uA σ 297 (40 * m + o) b)) := fun b => sN2 (k := 297) rfl (show 40 * m + o < ln 297 from show _ < 1600 by omega) b
  have l0 : (0 : Int64) = (0 : Int32).toInt64 := rfl
  have l5 : (5 : Int64) = (5 : Int32).toInt64 := rfl
  by_cases fm : s.1 m 13 = -1
  · refine ⟨0, Or.inl rfl, ⟨fun q => absurd q (by decide), fun q => absurd fm q.1⟩, ?_⟩
    simp only [DX10_learn_12, DX10_learn_40, DX10_learn_41, DX10_learn_125, DX10_learn_126, r_ck, r_0, r_1, r_2, r_3, r_4, r_5, r_6, r_7, r_8, r_9, r_10, r_11, r_12, r_13, r_14, r_15, r_16, r_17, r_18, r_19, r_20, r_21, r_22, r_23, r_24, r_25, r_26, r_27, r_28, r_29, r_30, r_31, r_32, r_33, r_34, r_35, r_36, r_37, rp_0, rp_1, rp_26, rp_28, rp_30, rp_33, rp_35, rp_37, Option.bind_some, bRT, bRW, bWW, bW, le0, ne10, if_true, if_false, not_true_eq_false, not_false_eq_true, uI_at, uA_1, uB_1, uG_1, uI_2, hM.nn, f_isF hM hI hm, fm, n40m, hs, nI_1, true_or]
    rw [if_neg (nI_ge ho (by omega))]
  · by_cases fo : s.1 o 13 = -1
    · refine ⟨0, Or.inl rfl, ⟨fun q => absurd q (by decide), fun q => absurd fo q.2.1⟩, ?_⟩
      simp only [DX10_learn_12, DX10_learn_40, DX10_learn_41, DX10_learn_125, DX10_learn_126, r_ck, r_0, r_1, r_2, r_3, r_4, r_5, r_6, r_7, r_8, r_9, r_10, r_11, r_12, r_13, r_14, r_15, r_16, r_17, r_18, r_19, r_20, r_21, r_22, r_23, r_24, r_25, r_26, r_27, r_28, r_29, r_30, r_31, r_32, r_33, r_34, r_35, r_36, r_37, rp_0, rp_1, rp_26, rp_28, rp_30, rp_33, rp_35, rp_37, Option.bind_some, bRT, bRW, bWW, bW, le0, ne10, if_true, if_false, not_true_eq_false, not_false_eq_true, uI_at, uA_1, uB_1, uG_1, uI_2, hM.nn, f_isF hM hI hm, f_isF hM hI ho, fm, fo, n40m, hs, nI_1, true_or]
      rw [if_neg (nI_ge ho (by omega))]
    · have hF : ndF s m o ↔ ndC s m o := ⟨fun q => q.2.2, fun q => ⟨fm, fo, q⟩⟩
      have hgo : DX10_learn_12 N k2 (w + 1) (h + 275) (nI m) (nI o) (HH h σ) = DX10_learn_41 N k2 (DX10_learn_12 N k2 w) (h + 275) (nI m) (nI o) 1 (HH h σ) := by
        simp only [DX10_learn_12, r_ck, r_0, r_1, r_2, r_3, r_4, r_5, r_6, r_7, r_8, r_9, r_10, r_11, r_12, r_13, r_14, r_15, r_16, r_17, r_18, r_19, r_20, r_21, r_22, r_23, r_24, r_25, r_26, r_27, r_28, r_29, r_30, r_31, r_32, r_33, r_34, r_35, r_36, r_37, rp_0, rp_1, rp_26, rp_28, rp_30, rp_33, rp_35, rp_37, Option.bind_some, bRT, bRW, bWW, bW, le0, ne10, if_true, if_false, not_true_eq_false, not_false_eq_true, uI_at, uA_1, uB_1, uG_1, uI_2, hM.nn, f_isF hM hI hm, f_isF hM hI ho, fm, fo]
        rw [if_neg (nI_ge ho (by omega))]
      rw [hgo]
      by_cases ht : two (s.1 m 13)
      · have tt : ((0 : Int32) ≤ s.1 m 13 ∧ s.1 m 13 ≤ (5 : Int32)) = True := eq_true ht
        have n6 : ¬ s.1 m 13 = 6 := fun q => by rw [q] at ht; exact absurd ht.2 (by decide)
        by_cases a : s.1 (s.1 m 14).toNatClampNeg 4 = nI o
        · refine ⟨1, Or.inr rfl, ⟨fun _ => hF.mpr (Or.inl ⟨ht, Or.inl a⟩), fun _ => rfl⟩, ?_⟩
          simp only [DX10_learn_41, DX10_learn_121, DX10_learn_126, r_ck, r_0, r_1, r_2, r_3, r_4, r_5, r_6, r_7, r_8, r_9, r_10, r_11, r_12, r_13, r_14, r_15, r_16, r_17, r_18, r_19, r_20, r_21, r_22, r_23, r_24, r_25, r_26, r_27, r_28, r_29, r_30, r_31, r_32, r_33, r_34, r_35, r_36, r_37, rp_0, rp_1, rp_26, rp_28, rp_30, rp_33, rp_35, rp_37, Option.bind_some, bRT, bRW, bWW, bW, le0, ne10, if_true, if_false, not_true_eq_false, not_false_eq_true, uI_at, uA_1, uB_1, uG_1, uI_2, m_op hM hn hm, l0, l5, ii_eq, tt, m_a2 hM hn hm ht, a, n40m, hs, nI_1, or_true]
        · by_cases b : s.1 (s.1 m 15).toNatClampNeg 4 = nI o
          · refine ⟨1, Or.inr rfl, ⟨fun _ => hF.mpr (Or.inl ⟨ht, Or.inr b⟩), fun _ => rfl⟩, ?_⟩
            simp only [DX10_learn_41, DX10_learn_121, DX10_learn_126, r_ck, r_0, r_1, r_2, r_3, r_4, r_5, r_6, r_7, r_8, r_9, r_10, r_11, r_12, r_13, r_14, r_15, r_16, r_17, r_18, r_19, r_20, r_21, r_22, r_23, r_24, r_25, r_26, r_27, r_28, r_29, r_30, r_31, r_32, r_33, r_34, r_35, r_36, r_37, rp_0, rp_1, rp_26, rp_28, rp_30, rp_33, rp_35, rp_37, Option.bind_some, bRT, bRW, bWW, bW, le0, ne10, if_true, if_false, not_true_eq_false, not_false_eq_true, uI_at, uA_1, uB_1, uG_1, uI_2, m_op hM hn hm, l0, l5, ii_eq, tt, m_a2 hM hn hm ht, m_b2 hM hn hm ht, a, b, n40m, hs, nI_1, or_true]
          · refine ⟨0, Or.inl rfl, ⟨fun q => absurd q (by decide), fun q => ?_⟩, ?_⟩
            · rcases hF.mp q with q | q
              · rcases q.2 with q | q
                · exact absurd q a
                · exact absurd q b
              · exact absurd q.1 n6
            · simp only [DX10_learn_41, DX10_learn_125, DX10_learn_126, r_ck, r_0, r_1, r_2, r_3, r_4, r_5, r_6, r_7, r_8, r_9, r_10, r_11, r_12, r_13, r_14, r_15, r_16, r_17, r_18, r_19, r_20, r_21, r_22, r_23, r_24, r_25, r_26, r_27, r_28, r_29, r_30, r_31, r_32, r_33, r_34, r_35, r_36, r_37, rp_0, rp_1, rp_26, rp_28, rp_30, rp_33, rp_35, rp_37, Option.bind_some, bRT, bRW, bWW, bW, le0, ne10, if_true, if_false, not_true_eq_false, not_false_eq_true, uI_at, uA_1, uB_1, uG_1, uI_2, m_op hM hn hm, l0, l5, ii_eq, tt, m_a2 hM hn hm ht, m_b2 hM hn hm ht, a, b, n40m, hs, nI_1, true_or]
      · have tt : ((0 : Int32) ≤ s.1 m 13 ∧ s.1 m 13 ≤ (5 : Int32)) = False := eq_false ht
        by_cases h6 : s.1 m 13 = 6
        · obtain ⟨g, hg, eg⟩ := (hI.O hm).2.2 h6
          obtain ⟨b, b1, b2, b3⟩ := f_has (N := N) (h := h) hN hM hI hg o
          have hb : b = 1 ↔ ndF s m o := by
            rw [b3, hF]
            unfold ndC
            rw [eg]
            exact ⟨fun q => Or.inr ⟨h6, q⟩, fun q => by
              rcases q with q | q
              · exact absurd q.1 ht
              · exact q.2⟩
          refine ⟨b, b2, hb, ?_⟩
          rcases b2 with rfl | rfl
          · simp only [DX10_learn_41, DX10_learn_125, DX10_learn_126, r_ck, r_0, r_1, r_2, r_3, r_4, r_5, r_6, r_7, r_8, r_9, r_10, r_11, r_12, r_13, r_14, r_15, r_16, r_17, r_18, r_19, r_20, r_21, r_22, r_23, r_24, r_25, r_26, r_27, r_28, r_29, r_30, r_31, r_32, r_33, r_34, r_35, r_36, r_37, rp_0, rp_1, rp_26, rp_28, rp_30, rp_33, rp_35, rp_37, Option.bind_some, bRT, bRW, bWW, bW, le0, ne10, if_true, if_false, not_true_eq_false, not_false_eq_true, uI_at, uA_1, uB_1, uG_1, uI_2, m_op hM hn hm, l0, l5, ii_eq, tt, h6, m_a67 hM hn hm (Or.inl h6), eg, b1, n40m, hs, nI_1, true_or, show ((6 : Int32) ≤ 5) = False from eq_false (by decide), and_false]
          · simp only [DX10_learn_41, DX10_learn_121, DX10_learn_126, r_ck, r_0, r_1, r_2, r_3, r_4, r_5, r_6, r_7, r_8, r_9, r_10, r_11, r_12, r_13, r_14, r_15, r_16, r_17, r_18, r_19, r_20, r_21, r_22, r_23, r_24, r_25, r_26, r_27, r_28, r_29, r_30, r_31, r_32, r_33, r_34, r_35, r_36, r_37, rp_0, rp_1, rp_26, rp_28, rp_30, rp_33, rp_35, rp_37, Option.bind_some, bRT, bRW, bWW, bW, le0, ne10, if_true, if_false, not_true_eq_false, not_false_eq_true, uI_at, uA_1, uB_1, uG_1, uI_2, m_op hM hn hm, l0, l5, ii_eq, tt, h6, m_a67 hM hn hm (Or.inl h6), eg, b1, n40m, hs, nI_1, or_true, show ((6 : Int32) ≤ 5) = False from eq_false (by decide), and_false]
        · refine ⟨0, Or.inl rfl, ⟨fun q => absurd q (by decide), fun q => ?_⟩, ?_⟩
          · rcases hF.mp q with q | q
            · exact absurd q.1 ht
            · exact absurd q.1 h6
          · simp only [DX10_learn_41, DX10_learn_125, DX10_learn_126, r_ck, r_0, r_1, r_2, r_3, r_4, r_5, r_6, r_7, r_8, r_9, r_10, r_11, r_12, r_13, r_14, r_15, r_16, r_17, r_18, r_19, r_20, r_21, r_22, r_23, r_24, r_25, r_26, r_27, r_28, r_29, r_30, r_31, r_32, r_33, r_34, r_35, r_36, r_37, rp_0, rp_1, rp_26, rp_28, rp_30, rp_33, rp_35, rp_37, Option.bind_some, bRT, bRW, bWW, bW, le0, ne10, if_true, if_false, not_true_eq_false, not_false_eq_true, uI_at, uA_1, uB_1, uG_1, uI_2, m_op hM hn hm, l0, l5, ii_eq, tt, h6, n40m, hs, nI_1, true_or]
def mat (σ : SG) (r c : Nat) (P : Prop) : Prop := (σ.2.2.1 297 (40 * r + c) = 0 ∨ σ.2.2.1 297 (40 * r + c) = 1) ∧ (σ.2.2.1 297 (40 * r + c) = 1 ↔ P)
theorem f_learn12 {N h : Nat} (hN : 10000 ≤ N) {s : AS} (hI : Inv s) {m : Nat} (hm : m < s.2.2.2) (k2 : Nat → Int32 → HF → Option (Unit × HF)) : ∀ (w o : Nat) (σ : SG), s.2.2.2 - o < w → o ≤ s.2.2.2 → RM σ s → ∃ τ, DX10_learn_12 N k2 w (h + 275) (nI m) (nI o) (HH h σ) = k2 (h + 275) (nI (m + 1)) (HH h τ) ∧ sbut [297] σ τ ∧ (∀ c, o ≤ c → c < s.2.2.2 → mat τ m c (ndF s m c)) ∧ (∀ q, q < 40 * m + o ∨ 40 * m + s.2.2.2 ≤ q → τ.2.2.1 297 q = σ.2.2.1 297 q) := by
  have hn := hI.n40
  intro w
  induction w with
  | zero => intro o σ hw; omega
  | succ w ih =>
    intro o σ hw ho hM
    by_cases z : s.2.2.2 ≤ o
    · refine ⟨σ, ?_, sbut.rf, fun c h1 h2 => by omega, fun _ _ => rfl⟩
      simp only [DX10_learn_12, r_ck, r_0, r_1, r_2, r_3, r_4, r_5, r_6, r_7, r_8, r_9, r_10, r_11, r_12, r_13, r_14, r_15, r_16, r_17, r_18, r_19, r_20, r_21, r_22, r_23, r_24, r_25, r_26, r_27, r_28, r_29, r_30, r_31, r_32, r_33, r_34, r_35, r_36, r_37, rp_0, rp_1, rp_26, rp_28, rp_30, rp_33, rp_35, rp_37, Option.bind_some, bRT, bRW, bWW, bW, le0, ne10, if_true, if_false, not_true_eq_false, not_false_eq_true, uI_at, uA_1, uB_1, uG_1, uI_2, hM.nn]
      rw [if_pos (nI_le z (by omega)), nI_1]
    · obtain ⟨b, b1, b2, b3⟩ := f_learn1 (N := N) (h := h) hN hM hI hm (show o < s.2.2.2 by omega) k2 w
      have hb : sbut [297] σ (uA σ 297 (40 * m + o) b) := sbut.uA (by simp)
      obtain ⟨τ, t1, t2, t3, t4⟩ := ih (o + 1) _ (by omega) (by omega) (hM.n297 hb)
      refine ⟨τ, by rw [b3]; exact t1, hb.tr t2, fun c h1 h2 => ?_, fun q hq => ?_⟩
      · by_cases e : c = o
        · subst e
          have : τ.2.2.1 297 (40 * m + c) = b := by rw [t4 _ (by omega), uA_at]
          unfold mat
          rw [this]
          exact ⟨b1, b2⟩
        · exact t3 c (by omega) h2
      · rw [t4 q (by omega), uA_ne _ _ _ _ (by omega)]
theorem f_learn2 {N h : Nat} (hN : 10000 ≤ N) {s : AS} (hI : Inv s) : ∀ (w m : Nat) (σ : SG), s.2.2.2 - m < w → m ≤ s.2.2.2 → RM σ s → ∃ τ, DX10_learn_2 N w (h + 275) (nI m) (HH h σ) = some ((), HH h τ) ∧ sbut [297] σ τ ∧ (∀ r, m ≤ r → r < s.2.2.2 → ∀ c, c < s.2.2.2 → mat τ r c (ndF s r c)) ∧ (∀ q, q < 40 * m → τ.2.2.1 297 q = σ.2.2.1 297 q) := by
  have hn := hI.n40
  intro w
  induction w with
  | zero => intro m σ hw; omega
  | succ w ih =>
    intro m σ hw hm hM
    simp only [DX10_learn_2, r_ck, r_0, r_1, r_2, r_3, r_4, r_5, r_6, r_7, r_8, r_9, r_10, r_11, r_12, r_13, r_14, r_15, r_16, r_17, r_18, r_19, r_20, r_21, r_22, r_23, r_24, r_25, r_26, r_27, r_28, r_29, r_30, r_31, r_32, r_33, r_34, r_35, r_36, r_37, rp_0, rp_1, rp_26, rp_28, rp_30, rp_33, rp_35, rp_37, Option.bind_some, bRT, bRW, bWW, bW, le0, ne10, if_true, if_false, not_true_eq_false, not_false_eq_true, uI_at, uA_1, uB_1, uG_1, uI_2, hM.nn]
    by_cases z : s.2.2.2 ≤ m
    · exact ⟨σ, by rw [if_pos (nI_le z (by omega))], sbut.rf, fun r h1 h2 => by omega, fun _ _ => rfl⟩
    · have hlt : m < s.2.2.2 := by omega
      obtain ⟨τ, t1, t2, t3, t4⟩ := f_learn12 (N := N) (h := h) hN hI hlt (DX10_learn_2 N w) N 0 σ (by omega) (by omega) hM
      obtain ⟨υ, u1, u2, u3, u4⟩ := ih (m + 1) τ (by omega) (by omega) (hM.n297 t2)
      refine ⟨υ, ?_, t2.tr u2, fun r h1 h2 c hc => ?_, fun q hq => by rw [u4 q (by omega), t4 q (by omega)]⟩
      · rw [nI_0] at t1
        rw [if_neg (nI_ge hlt (by omega)), t1, u1]
      · by_cases e : r = m
        · subst e
          have := t3 c (by omega) hc
          unfold mat at this ⊢
          rw [u4 _ (by omega)]
          exact this
        · exact u3 r (by omega) h2 c hc
theorem f_learn {N h : Nat} (hN : 10000 ≤ N) {σ : SG} {s : AS} (hM : RM σ s) (hI : Inv s) : ∃ τ, DX10_learn N (h + 275) (HH h σ) = some ((), HH h τ) ∧ sbut [297] σ τ ∧ ∀ r, r < s.2.2.2 → ∀ c, c < s.2.2.2 → mat τ r c (ndF s r c) := by
  have hn := hI.n40
  obtain ⟨τ, t1, t2, t3, _⟩ := f_learn2 (N := N) (h := h) hN hI N 0 σ (by omega) (by omega) hM
  refine ⟨τ, ?_, t2, fun r hr => t3 r (by omega) hr⟩
  rw [nI_0] at t1
  simp only [DX10_learn, r_ck, Option.bind_some, bRT, bRW, bWW, bW, le0, ne10, if_true, if_false, not_true_eq_false, not_false_eq_true, uI_at, uA_1, uB_1, uG_1, uI_2, t1]
theorem f_ring22 {N h : Nat} {n : Nat} (hn : n ≤ 40) {M : Nat → Nat → Prop} {k m : Nat} (hk : k < n) (hm : m < n) (k2 : Nat → Int32 → HF → Option (Int32 × HF)) (k12 : Nat → Int32 → Int32 → HF → Option (Int32 × HF)) : ∀ (w o : Nat) (σ : SG), n - o < w → o ≤ n → σ.1 275 1 = nI n → (∀ r, r < n → ∀ c, c < n → mat σ r c ((r < m ∧ wst M k r c) ∨ (r = m ∧ c < o ∧ wst M k r c) ∨ (r = m ∧ o ≤ c ∧ M r c) ∨ (m < r ∧ M r c))) → ∃ τ, DX10_ring_22 N k2 k12 w (h + 275) (nI k) (nI m) (nI o) (HH h σ) = k12 (h + 275) (nI k) (nI (m + 1)) (HH h τ) ∧ sbut [297] σ τ ∧ ∀ r, r < n → ∀ c, c < n → mat τ r c ((r < m + 1 ∧ wst M k r c) ∨ (m + 1 ≤ r ∧ M r c)) := by
  intro w
  induction w with
  | zero => intro o σ hw; omega
  | succ w ih =>
    intro o σ hw ho h1 hR
    have hm4 : m < 40 := by omega
    have hk4 : k < 40 := by omega
    simp only [DX10_ring_22, DX10_ring_94, DX10_ring_82, DX10_ring_87, r_ck, r_0, r_1, r_2, r_3, r_4, r_5, r_6, r_7, r_8, r_9, r_10, r_11, r_12, r_13, r_14, r_15, r_16, r_17, r_18, r_19, r_20, r_21, r_22, r_23, r_24, r_25, r_26, r_27, r_28, r_29, r_30, r_31, r_32, r_33, r_34, r_35, r_36, r_37, rp_0, rp_1, rp_26, rp_28, rp_30, rp_33, rp_35, rp_37, Option.bind_some, bRT, bRW, bWW, bW, le0, ne10, if_true, if_false, not_true_eq_false, not_false_eq_true, uI_at, uA_1, uB_1, uG_1, uI_2, h1, n40m, nI_1]
    by_cases z : n ≤ o
    · refine ⟨σ, by rw [if_pos (nI_le z (by omega))], sbut.rf, fun r hr c hc => ⟨(hR r hr c hc).1, (hR r hr c hc).2.trans ?_⟩⟩
      constructor
      · rintro (q | q | q | q)
        · exact Or.inl ⟨by omega, q.2⟩
        · exact Or.inl ⟨by omega, q.2.2⟩
        · omega
        · exact Or.inr ⟨by omega, q.2⟩
      · rintro (q | q)
        · by_cases e : r = m
          · exact Or.inr (Or.inl ⟨e, by omega, q.2⟩)
          · exact Or.inl ⟨by omega, q.2⟩
        · exact Or.inr (Or.inr (Or.inr ⟨by omega, q.2⟩))
    · have hlt : o < n := by omega
      have ho4 : o < 40 := by omega
      have b1 : 40 * m + k < ln 297 := show _ < 1600 by omega
      have b2 : 40 * m + o < ln 297 := show _ < 1600 by omega
      have b3 : 40 * k + o < ln 297 := show _ < 1600 by omega
      rw [if_neg (nI_ge hlt (by omega))]
      simp only [aN2 (k := 297) rfl b1, aN2 (k := 297) rfl b2, aN2 (k := 297) rfl b3, Option.bind_some, bRT, bRW, bWW, bW, le0, ne10, if_true, if_false, not_true_eq_false, not_false_eq_true, uI_at, uA_1, uB_1, uG_1, uI_2, sN2 (k := 297) rfl b2, or_true, true_or]
      have hmk : σ.2.2.1 297 (40 * m + k) = 1 ↔ M m k := by
        refine (hR m hm k hk).2.trans ⟨?_, fun q => ?_⟩
        · rintro (q | q | q | q)
          · omega
          · rcases q.2.2 with e | e
            · exact e
            · exact e.1
          · exact q.2.2
          · omega
        · rcases Nat.lt_or_ge k o with e | e
          · exact Or.inr (Or.inl ⟨rfl, e, Or.inl q⟩)
          · exact Or.inr (Or.inr (Or.inl ⟨rfl, e, q⟩))
      rcases (hR m hm k hk).1 with e0 | e1
      · have hno : ¬ M m k := fun q => by rw [hmk.mpr q] at e0; exact absurd e0 (by decide)
        refine ⟨σ, by rw [if_pos e0], sbut.rf, fun r hr c hc => ⟨(hR r hr c hc).1, (hR r hr c hc).2.trans ?_⟩⟩
        constructor
        · rintro (q | q | q | q)
          · exact Or.inl ⟨by omega, q.2⟩
          · exact Or.inl ⟨by omega, q.2.2⟩
          · exact Or.inl ⟨by omega, Or.inl q.2.2⟩
          · exact Or.inr ⟨by omega, q.2⟩
        · rintro (q | q)
          · by_cases e : r = m
            · have hM2 : M r c := by
                rcases q.2 with y | y
                · exact y
                · rw [e] at y; exact absurd y.1 hno
              rcases Nat.lt_or_ge c o with x | x
              · exact Or.inr (Or.inl ⟨e, x, Or.inl hM2⟩)
              · exact Or.inr (Or.inr (Or.inl ⟨e, x, hM2⟩))
            · exact Or.inl ⟨by omega, q.2⟩
          · exact Or.inr (Or.inr (Or.inr ⟨by omega, q.2⟩))
      · have hyes := hmk.mp e1
        rw [if_neg (by rw [e1]; decide)]
        have hmo : σ.2.2.1 297 (40 * m + o) = 1 ↔ M m o := by
          refine (hR m hm o hlt).2.trans ⟨?_, fun q => Or.inr (Or.inr (Or.inl ⟨rfl, Nat.le_refl _, q⟩))⟩
          rintro (q | q | q | q)
          · omega
          · omega
          · exact q.2.2
          · omega
        have hko : σ.2.2.1 297 (40 * k + o) = 1 ↔ M k o := by
          refine (hR k hk o hlt).2.trans ⟨?_, fun q => ?_⟩
          · rintro (q | q | q | q)
            · exact wst_k.mp q.2
            · omega
            · exact q.2.2
            · exact q.2
          · rcases Nat.lt_trichotomy k m with e | e | e
            · exact Or.inl ⟨e, wst_k.mpr q⟩
            · exact Or.inr (Or.inr (Or.inl ⟨e, Nat.le_refl _, q⟩))
            · exact Or.inr (Or.inr (Or.inr ⟨e, q⟩))
        have fin : ∀ b : Int32, (b = 0 ∨ b = 1) → (b = 1 ↔ wst M k m o) → ∃ τ, DX10_ring_22 N k2 k12 w (h + 275) (nI k) (nI m) (nI (o + 1)) (HH h (uA σ 297 (40 * m + o) b)) = k12 (h + 275) (nI k) (nI (m + 1)) (HH h τ) ∧ sbut [297] σ τ ∧ ∀ r, r < n → ∀ c, c < n → mat τ r c ((r < m + 1 ∧ wst M k r c) ∨ (m + 1 ≤ r ∧ M r c)) := fun b hb hb1 => by
          have hst : ∀ r, r < n → ∀ c, c < n → mat (uA σ 297 (40 * m + o) b) r c ((r < m ∧ wst M k r c) ∨ (r = m ∧ c < o + 1 ∧ wst M k r c) ∨ (r = m ∧ o + 1 ≤ c ∧ M r c) ∨ (m < r ∧ M r c)) := fun r hr c hc => by
            by_cases e : r = m ∧ c = o
            · obtain ⟨rfl, rfl⟩ := e
              unfold mat
              rw [uA_at]
              refine ⟨hb, hb1.trans ⟨fun q => Or.inr (Or.inl ⟨rfl, by omega, q⟩), ?_⟩⟩
              rintro (q | q | q | q)
              · omega
              · exact q.2.2
              · omega
              · omega
            · unfold mat
              rw [uA_ne _ _ _ _ (by omega)]
              refine ⟨(hR r hr c hc).1, (hR r hr c hc).2.trans ?_⟩
              constructor
              · rintro (q | q | q | q)
                · exact Or.inl q
                · exact Or.inr (Or.inl ⟨q.1, by omega, q.2.2⟩)
                · exact Or.inr (Or.inr (Or.inl ⟨q.1, by omega, q.2.2⟩))
                · exact Or.inr (Or.inr (Or.inr q))
              · rintro (q | q | q | q)
                · exact Or.inl q
                · exact Or.inr (Or.inl ⟨q.1, by omega, q.2.2⟩)
                · exact Or.inr (Or.inr (Or.inl ⟨q.1, by omega, q.2.2⟩))
                · exact Or.inr (Or.inr (Or.inr q))
          obtain ⟨τ, t1, t2, t3⟩ := ih (o + 1) (uA σ 297 (40 * m + o) b) (by omega) (by omega) h1 hst
          exact ⟨τ, t1, (sbut.uA (by simp)).tr t2, t3⟩
        rcases (hR m hm o hlt).1 with y0 | y1
        · rw [if_pos y0]
          have hno : ¬ M m o := fun q => by rw [hmo.mpr q] at y0; exact absurd y0 (by decide)
          rcases (hR k hk o hlt).1 with x0 | x1
          · rw [if_pos x0]
            refine fin 0 (Or.inl rfl) ⟨fun q => absurd q (by decide), fun q => ?_⟩
            rcases q with q | q
            · exact absurd q hno
            · have := hko.mpr q.2
              rw [x0] at this
              exact absurd this (by decide)
          · rw [if_neg (by rw [x1]; decide)]
            exact fin 1 (Or.inr rfl) ⟨fun _ => Or.inr ⟨hyes, hko.mp x1⟩, fun _ => rfl⟩
        · rw [if_neg (by rw [y1]; decide)]
          exact fin 1 (Or.inr rfl) ⟨fun _ => Or.inl (hmo.mp y1), fun _ => rfl⟩
theorem f_ring12 {N h : Nat} (hN : 10000 ≤ N) {n : Nat} (hn : n ≤ 40) {M : Nat → Nat → Prop} {k : Nat} (hk : k < n) (k2 : Nat → Int32 → HF → Option (Int32 × HF)) : ∀ (w m : Nat) (σ : SG), n - m < w → m ≤ n → σ.1 275 1 = nI n → (∀ r, r < n → ∀ c, c < n → mat σ r c ((r < m ∧ wst M k r c) ∨ (m ≤ r ∧ M r c))) → ∃ τ, DX10_ring_12 N k2 w (h + 275) (nI k) (nI m) (HH h σ) = k2 (h + 275) (nI (k + 1)) (HH h τ) ∧ sbut [297] σ τ ∧ ∀ r, r < n → ∀ c, c < n → mat τ r c (wst M k r c) := by
  intro w
  induction w with
  | zero => intro m σ hw; omega
  | succ w ih =>
    intro m σ hw hm h1 hR
    simp only [DX10_ring_12, r_ck, r_0, r_1, r_2, r_3, r_4, r_5, r_6, r_7, r_8, r_9, r_10, r_11, r_12, r_13, r_14, r_15, r_16, r_17, r_18, r_19, r_20, r_21, r_22, r_23, r_24, r_25, r_26, r_27, r_28, r_29, r_30, r_31, r_32, r_33, r_34, r_35, r_36, r_37, rp_0, rp_1, rp_26, rp_28, rp_30, rp_33, rp_35, rp_37, Option.bind_some, bRT, bRW, bWW, bW, le0, ne10, if_true, if_false, not_true_eq_false, not_false_eq_true, uI_at, uA_1, uB_1, uG_1, uI_2, h1]
    by_cases z : n ≤ m
    · refine ⟨σ, by rw [if_pos (nI_le z (by omega)), nI_1], sbut.rf, fun r hr c hc => ⟨(hR r hr c hc).1, (hR r hr c hc).2.trans ⟨fun q => ?_, fun q => Or.inl ⟨by omega, q⟩⟩⟩⟩
      rcases q with q | q
      · exact q.2
      · omega
    · have hlt : m < n := by omega
      obtain ⟨τ, t1, t2, t3⟩ := f_ring22 (N := N) (h := h) hn hk hlt k2 (DX10_ring_12 N k2 w) N 0 σ (by omega) (by omega) h1 (fun r hr c hc => ⟨(hR r hr c hc).1, (hR r hr c hc).2.trans ⟨fun q => by
        rcases q with q | q
        · exact Or.inl q
        · by_cases e : r = m
          · exact Or.inr (Or.inr (Or.inl ⟨e, by omega, q.2⟩))
          · exact Or.inr (Or.inr (Or.inr ⟨by omega, q.2⟩)), fun q => by
        rcases q with q | q | q | q
        · exact Or.inl q
        · omega
        · exact Or.inr ⟨by omega, q.2.2⟩
        · exact Or.inr ⟨by omega, q.2⟩⟩⟩)
      obtain ⟨υ, u1, u2, u3⟩ := ih (m + 1) τ (by omega) (by omega) (by rw [(t2.ag (k := 275) (by simp)).1]; exact h1) t3
      refine ⟨υ, ?_, t2.tr u2, u3⟩
      rw [nI_0] at t1
      rw [if_neg (nI_ge hlt (by omega)), t1, u1]
theorem f_ring2 {N h : Nat} (hN : 10000 ≤ N) {n : Nat} (hn : n ≤ 40) {M : Nat → Nat → Prop} : ∀ (w k : Nat) (σ : SG), n - k < w → k ≤ n → σ.1 275 1 = nI n → (∀ r, r < n → ∀ c, c < n → mat σ r c (Wsh M k r c)) → ∃ τ, DX10_ring_2 N w (h + 275) (nI k) (HH h σ) = DX10_ring_108 N N (h + 275) 0 (HH h τ) ∧ sbut [297] σ τ ∧ ∀ r, r < n → ∀ c, c < n → mat τ r c (Wsh M n r c) := by
  intro w
  induction w with
  | zero => intro k σ hw; omega
  | succ w ih =>
    intro k σ hw hk h1 hR
    simp only [DX10_ring_2, r_ck, r_0, r_1, r_2, r_3, r_4, r_5, r_6, r_7, r_8, r_9, r_10, r_11, r_12, r_13, r_14, r_15, r_16, r_17, r_18, r_19, r_20, r_21, r_22, r_23, r_24, r_25, r_26, r_27, r_28, r_29, r_30, r_31, r_32, r_33, r_34, r_35, r_36, r_37, rp_0, rp_1, rp_26, rp_28, rp_30, rp_33, rp_35, rp_37, Option.bind_some, bRT, bRW, bWW, bW, le0, ne10, if_true, if_false, not_true_eq_false, not_false_eq_true, uI_at, uA_1, uB_1, uG_1, uI_2, h1]
    by_cases z : n ≤ k
    · obtain rfl : k = n := by omega
      exact ⟨σ, by rw [if_pos (nI_le z (by omega))], sbut.rf, hR⟩
    · have hlt : k < n := by omega
      obtain ⟨τ, t1, t2, t3⟩ := f_ring12 (N := N) (h := h) hN hn hlt (DX10_ring_2 N w) N 0 σ (by omega) (by omega) h1 (fun r hr c hc => ⟨(hR r hr c hc).1, (hR r hr c hc).2.trans ⟨fun q => Or.inr ⟨by omega, q⟩, fun q => by
        rcases q with q | q
        · omega
        · exact q.2⟩⟩)
      obtain ⟨υ, u1, u2, u3⟩ := ih (k + 1) τ (by omega) (by omega) (by rw [(t2.ag (k := 275) (by simp)).1]; exact h1) t3
      refine ⟨υ, ?_, t2.tr u2, u3⟩
      rw [nI_0] at t1
      rw [if_neg (nI_ge hlt (by omega)), t1, u1]
theorem f_ring108 {N h : Nat} {n : Nat} (hn : n ≤ 40) {M : Nat → Nat → Prop} {σ : SG} (h1 : σ.1 275 1 = nI n) (hR : ∀ r, r < n → ∀ c, c < n → mat σ r c (M r c)) : ∀ (w i : Nat), n - i < w → i ≤ n → (∀ j, j < i → ¬ M j j) → ∃ r, DX10_ring_108 N w (h + 275) (nI i) (HH h σ) = some (r, HH h σ) ∧ Lst (fun i => M i i) n r := by
  intro w
  induction w with
  | zero => intro i hw; omega
  | succ w ih =>
    intro i hw hi hj
    simp only [DX10_ring_108, r_ck, r_0, r_1, r_2, r_3, r_4, r_5, r_6, r_7, r_8, r_9, r_10, r_11, r_12, r_13, r_14, r_15, r_16, r_17, r_18, r_19, r_20, r_21, r_22, r_23, r_24, r_25, r_26, r_27, r_28, r_29, r_30, r_31, r_32, r_33, r_34, r_35, r_36, r_37, rp_0, rp_1, rp_26, rp_28, rp_30, rp_33, rp_35, rp_37, Option.bind_some, bRT, bRW, bWW, bW, le0, ne10, if_true, if_false, not_true_eq_false, not_false_eq_true, uI_at, uA_1, uB_1, uG_1, uI_2, h1]
    by_cases z : n ≤ i
    · exact ⟨-1, by rw [if_pos (nI_le z (by omega))], Or.inl ⟨rfl, fun j hjn => hj j (by omega)⟩⟩
    · have hlt : i < n := by omega
      have e41 : (41 : Int32) * nI i = nI (40 * i + i) := by
        rw [show (41 : Int32) = nI 41 from rfl, nI_mul]
        congr 1
        omega
      rw [if_neg (nI_ge hlt (by omega))]
      simp only [e41, aN2 (k := 297) rfl (show 40 * i + i < ln 297 from show _ < 1600 by omega), Option.bind_some, bRT, bRW, bWW, bW, le0, ne10, if_true, if_false, not_true_eq_false, not_false_eq_true, uI_at, uA_1, uB_1, uG_1, uI_2, nI_1]
      rcases (hR i hlt i hlt).1 with q | q
      · obtain ⟨r, r1, r2⟩ := ih (i + 1) (by omega) (by omega) (fun j hj2 => by
          rcases Nat.lt_or_ge j i with y | y
          · exact hj j y
          · obtain rfl : j = i := by omega
            intro x
            have := (hR j hlt j hlt).2.mpr x
            rw [q] at this
            exact absurd this (by decide))
        exact ⟨r, by rw [if_pos q]; exact r1, r2⟩
      · exact ⟨nI i, by rw [if_neg (by rw [q]; decide)], Or.inr ⟨i, hlt, (hR i hlt i hlt).2.mp q, hj, rfl⟩⟩
theorem f_ring {N h : Nat} (hN : 10000 ≤ N) {σ : SG} {s : AS} (hM : RM σ s) (hn : s.2.2.2 ≤ 40) {M : Nat → Nat → Prop} (hR : ∀ r, r < s.2.2.2 → ∀ c, c < s.2.2.2 → mat σ r c (M r c)) : ∃ τ r, DX10_ring N (h + 275) (HH h σ) = some (r, HH h τ) ∧ sbut [297] σ τ ∧ Lst (fun i => Wsh M s.2.2.2 i i) s.2.2.2 r := by
  obtain ⟨τ, t1, t2, t3⟩ := f_ring2 (N := N) (h := h) hN hn N 0 σ (by omega) (by omega) hM.nn hR
  obtain ⟨r, r1, r2⟩ := f_ring108 (N := N) (h := h) hn (by rw [(t2.ag (k := 275) (by simp)).1]; exact hM.nn) t3 N 0 (by omega) (by omega) (fun j hj => by omega)
  refine ⟨τ, r, ?_, t2, r2⟩
  rw [nI_0] at t1 r1
  simp only [DX10_ring, r_ck, Option.bind_some, bRT, bRW, bWW, bW, le0, ne10, if_true, if_false, not_true_eq_false, not_false_eq_true, uI_at, uA_1, uB_1, uG_1, uI_2, t1, r1]
/-! both have the same rings -/
theorem Wsh_F {s : AS} : ∀ k i o, Wsh (ndC s) k i o → isF s i
  | 0, i, o, h => ndC_F h
  | k + 1, i, o, h => by
    rcases h with h | h
    · exact Wsh_F k i o h
    · exact Wsh_F k i k h.1
theorem Wsh_eq {s : AS} : ∀ k i o, Wsh (ndF s) k i o ↔ Wsh (ndC s) k i o ∧ isF s o
  | 0, i, o => ⟨fun h => ⟨h.2.2, h.2.1⟩, fun h => ⟨ndC_F h.1, h.2, h.1⟩⟩
  | k + 1, i, o => by
    show (Wsh (ndF s) k i o ∨ (Wsh (ndF s) k i k ∧ Wsh (ndF s) k k o)) ↔ (Wsh (ndC s) k i o ∨ (Wsh (ndC s) k i k ∧ Wsh (ndC s) k k o)) ∧ isF s o
    rw [Wsh_eq k i o, Wsh_eq k i k, Wsh_eq k k o]
    constructor
    · rintro (h | h)
      · exact ⟨Or.inl h.1, h.2⟩
      · exact ⟨Or.inr ⟨h.1.1, h.2.1⟩, h.2.2⟩
    · rintro ⟨h | h, h2⟩
      · exact Or.inl ⟨h, h2⟩
      · exact Or.inr ⟨⟨h.1, Wsh_F k k o h.2⟩, h.2, h2⟩
theorem Wsh_d {s : AS} (k i : Nat) : Wsh (ndC s) k i i ↔ Wsh (ndF s) k i i := by
  rw [Wsh_eq]
  exact ⟨fun h => ⟨h, Wsh_F k i i h⟩, fun h => h.1⟩
