/-! NAMES: the first field of a full name, on both sides -/
def pfv (s : AS) (v : Int32) : Int32 := if v = -1 then -1 else s.1 v.toNatClampNeg 4
theorem pfv_pf (s : AS) (i : Nat) : pf s i = pfv s (s.1 i 2) := rfl
theorem pfv_m1 (s : AS) : pfv s (-1) = -1 := by simp [pfv]
theorem pfv_n (s : AS) {i : Nat} (hi : i < 2 ^ 31) : pfv s (nI i) = s.1 i 4 := by
  unfold pfv
  rw [if_neg (nI_nm1 hi), nI_clamp hi]
def lkp (P : Nat → Prop) [DecidablePred P] : Nat → Nat → Int32
  | 0, _ => -1
  | w + 1, j => if P j then nI j else lkp P w (j + 1)
abbrev nmP (s : AS) (pv nm : Int32) (i : Nat) : Prop := s.1 i 3 = nm ∧ pf s i = pv
theorem lkp_spec (P : Nat → Prop) [DecidablePred P] : ∀ w j, (lkp P w j = -1 ∧ ∀ i, j ≤ i → i < j + w → ¬ P i) ∨ ∃ r, j ≤ r ∧ r < j + w ∧ P r ∧ (∀ i, j ≤ i → i < r → ¬ P i) ∧ lkp P w j = nI r
  | 0, j => Or.inl ⟨rfl, fun i h1 h2 => by omega⟩
  | w + 1, j => by
    unfold lkp
    by_cases c : P j
    · rw [if_pos c]
      exact Or.inr ⟨j, by omega, by omega, c, fun i h1 h2 => by omega, rfl⟩
    · rw [if_neg c]
      rcases lkp_spec P w (j + 1) with ⟨h1, h2⟩ | ⟨r, h1, h2, h3, h4, h5⟩
      · refine Or.inl ⟨h1, fun i a b => ?_⟩
        by_cases e : i = j
        · rw [e]; exact c
        · exact h2 i (by omega) (by omega)
      · refine Or.inr ⟨r, by omega, by omega, h3, fun i a b => ?_, h5⟩
        by_cases e : i = j
        · rw [e]; exact c
        · exact h4 i (by omega) (by omega)
theorem e_fn2 {N h : Nat} {σ : SG} {s : AS} (hC : RC σ s) (hI : Inv s) (pv nm : Int32) : ∀ (w j : Nat), j ≤ s.2.2.2 → s.2.2.2 - j < w → DX6_firstNamed_2 N (HH h σ) w (h + 1) pv nm (nI j) = some (.inl (lkp (nmP s pv nm) (s.2.2.2 - j) j)) := by
  intro w
  have hn := hI.n40
  induction w with
  | zero => intro j _ hw; omega
  | succ w ih =>
    intro j hj hw
    simp only [DX6_firstNamed_2, DX6_firstNamed_42, DX6_firstNamed_61, c_n hC, Option.bind_some, bRT, bRW, bWW, bW, le0, ne10, if_true, if_false, not_true_eq_false, not_false_eq_true, uI_at, uA_1, uB_1, uG_1, uI_2]
    by_cases c : s.2.2.2 ≤ j
    · rw [if_pos (nI_le c (by omega)), show s.2.2.2 - j = 0 by omega]
      rfl
    · have hlt : j < s.2.2.2 := by omega
      have hj4 : j < 40 := by omega
      rw [if_neg (nI_ge hlt (by omega)), show s.2.2.2 - j = (s.2.2.2 - (j + 1)) + 1 by omega]
      simp only [lkp, e_tg hC hlt, Option.bind_some, bRT, bRW, bWW, bW, le0, ne10, if_true, if_false, not_true_eq_false, not_false_eq_true, uI_at, uA_1, uB_1, uG_1, uI_2, c_2 hC hj4, c_3 hC hj4, nI_1]
      have ih' := ih (j + 1) (by omega) (by omega)
      rcases hI.par hlt with hp | ⟨p, hp, ep, _⟩
      · have hpf : pf s j = -1 := by rw [pfv_pf, hp, pfv_m1]
        rw [if_pos hp]
        by_cases a : s.1 j 3 = nm
        · rw [if_pos a]
          by_cases b : (-1 : Int32) = pv
          · rw [if_pos b, if_pos ⟨a, hpf.trans b⟩]
          · rw [if_neg b, if_neg (fun q => b (hpf.symm.trans q.2)), ih']
        · rw [if_neg a, if_neg (fun q => a q.1), ih']
      · have hpf : pf s j = s.1 p 4 := by rw [pfv_pf, ep, pfv_n s (by omega)]
        rw [ep, if_neg (nI_nm1 (by omega))]
        simp only [e_tg hC (show p < s.2.2.2 by omega), Option.bind_some, bRT, bRW, bWW, bW, le0, ne10, if_true, if_false, not_true_eq_false, not_false_eq_true, uI_at, uA_1, uB_1, uG_1, uI_2, c_4 hC (show p < 40 by omega)]
        by_cases a : s.1 j 3 = nm
        · rw [if_pos a]
          by_cases b : s.1 p 4 = pv
          · rw [if_pos b, if_pos ⟨a, hpf.trans b⟩]
          · rw [if_neg b, if_neg (fun q => b (hpf.symm.trans q.2)), ih']
        · rw [if_neg a, if_neg (fun q => a q.1), ih']
theorem e_fn {N h : Nat} (hN : 10000 ≤ N) {σ : SG} {s : AS} (hC : RC σ s) (hI : Inv s) (pv nm : Int32) : DX6_firstNamed N (h + 1) pv nm (HH h σ) = some (.inl (lkp (nmP s pv nm) s.2.2.2 0)) := by
  have hn := hI.n40
  have := e_fn2 (N := N) (h := h) hC hI pv nm N 0 (by omega) (by omega)
  rw [nI_0] at this
  simp only [DX6_firstNamed, t_ck, Option.bind_some, bRT, bRW, bWW, bW, le0, ne10, if_true, if_false, not_true_eq_false, not_false_eq_true, uI_at, uA_1, uB_1, uG_1, uI_2, this, Nat.sub_zero]
theorem ge0m : ((0 : Int32) ≤ -1) = False := eq_false (by decide)
theorem ltm0 : ((-1 : Int32) < 0) = True := eq_true (by decide)
theorem fst_nm1 {s : AS} (hI : Inv s) {i : Nat} (hi : i < s.2.2.2) : ¬ s.1 i 4 = -1 := by
  have hn := hI.n40
  obtain ⟨f, h1, h2, _⟩ := hI.fst hi
  rw [h2]
  exact nI_nm1 (by omega)
theorem f_same5 {N h : Nat} {σ : SG} {s : AS} (hM : RM σ s) (hI : Inv s) : ∀ (w : Nat) (v u : Int32), (v = -1 ∨ ∃ a, a < s.2.2.2 ∧ a + 1 < w ∧ v = nI a) → (u = -1 ∨ ∃ a, a < s.2.2.2 ∧ u = nI a) → 0 < w → DX10_isSameName_5 N (HH h σ) w (h + 275) v u = some (if pfv s v = pfv s u then 1 else 0) := by
  intro w
  have hn := hI.n40
  induction w with
  | zero => intro v u _ _ h; omega
  | succ w ih =>
    intro v u hv hu _
    simp only [DX10_isSameName_5, DX10_isSameName_49, r_ck, r_0, r_1, r_2, r_3, r_4, r_5, r_6, r_7, r_8, r_9, r_10, r_11, r_12, r_13, r_14, r_15, r_16, r_17, r_18, r_19, r_20, r_21, r_22, r_23, r_24, r_25, r_26, r_27, r_28, r_29, r_30, r_31, r_32, r_33, r_34, r_35, r_36, r_37, rp_0, rp_1, rp_26, rp_28, rp_30, rp_33, rp_35, rp_37, Option.bind_some, bRT, bRW, bWW, bW, le0, ne10, if_true, if_false, not_true_eq_false, not_false_eq_true, uI_at, uA_1, uB_1, uG_1, uI_2]
    rcases hv with rfl | ⟨a, ha, haw, rfl⟩
    · rcases hu with rfl | ⟨b, hb, rfl⟩
      · simp only [ltm0, ge0m, Option.bind_some, bRT, bRW, bWW, bW, le0, ne10, if_true, if_false, not_true_eq_false, not_false_eq_true, uI_at, uA_1, uB_1, uG_1, uI_2]
      · have : ¬ (-1 : Int32) = s.1 b 4 := fun q => fst_nm1 hI hb q.symm
        simp only [ltm0, ge0m, nI_pos' (show b < 2 ^ 31 by omega), pfv_m1, pfv_n s (show b < 2 ^ 31 by omega), this, Option.bind_some, bRT, bRW, bWW, bW, le0, ne10, if_true, if_false, not_true_eq_false, not_false_eq_true, uI_at, uA_1, uB_1, uG_1, uI_2]
    · rcases hu with rfl | ⟨b, hb, rfl⟩
      · simp only [ltm0, nI_pos (show a < 2 ^ 31 by omega), nI_pos' (show a < 2 ^ 31 by omega), pfv_m1, pfv_n s (show a < 2 ^ 31 by omega), fst_nm1 hI ha, Option.bind_some, bRT, bRW, bWW, bW, le0, ne10, if_true, if_false, not_true_eq_false, not_false_eq_true, uI_at, uA_1, uB_1, uG_1, uI_2]
      · simp only [nI_pos (show a < 2 ^ 31 by omega), nI_pos (show b < 2 ^ 31 by omega), nI_pos' (show a < 2 ^ 31 by omega), m_name hM hn ha, m_name hM hn hb, m_par hM hn ha, m_par hM hn hb, pfv_n s (show a < 2 ^ 31 by omega), pfv_n s (show b < 2 ^ 31 by omega), Option.bind_some, bRT, bRW, bWW, bW, le0, ne10, if_true, if_false, not_true_eq_false, not_false_eq_true, uI_at, uA_1, uB_1, uG_1, uI_2]
        have hcan := hI.can ha hb
        by_cases e : s.1 a 3 = s.1 b 3
        · rw [if_pos e, ih _ _ ?_ ?_ (by omega)]
          · have : (pfv s (s.1 a 2) = pfv s (s.1 b 2)) = (s.1 a 4 = s.1 b 4) := propext ⟨fun q => hcan.mpr ⟨e, q⟩, fun q => (hcan.mp q).2⟩
            simp only [this]
          · rcases hI.par ha with q | ⟨p, h1, h2, _⟩
            · exact Or.inl q
            · exact Or.inr ⟨p, by omega, by omega, h2⟩
          · rcases hI.par hb with q | ⟨p, h1, h2, _⟩
            · exact Or.inl q
            · exact Or.inr ⟨p, by omega, h2⟩
        · rw [if_neg e, if_neg (fun q => e (hcan.mp q).1)]
theorem f_same {N h : Nat} (hN : 10000 ≤ N) {σ : SG} {s : AS} (hM : RM σ s) (hI : Inv s) {a b : Nat} (ha : a < s.2.2.2) (hb : b < s.2.2.2) : DX10_isSameName N (h + 275) (nI a) (nI b) (HH h σ) = some (if s.1 a 4 = s.1 b 4 then 1 else 0) := by
  have hn := hI.n40
  have := f_same5 (N := N) (h := h) hM hI N (nI a) (nI b) (Or.inr ⟨a, ha, by omega, rfl⟩) (Or.inr ⟨b, hb, rfl⟩) (by omega)
  simp only [DX10_isSameName, r_ck, Option.bind_some, bRT, bRW, bWW, bW, le0, ne10, if_true, if_false, not_true_eq_false, not_false_eq_true, uI_at, uA_1, uB_1, uG_1, uI_2, this, pfv_n s (show a < 2 ^ 31 by omega), pfv_n s (show b < 2 ^ 31 by omega)]
theorem f_lk2 {N h : Nat} (hN : 10000 ≤ N) {σ : SG} {s : AS} (hM : RM σ s) (hI : Inv s) (pa nm : Int32) (hpa : pa = -1 ∨ ∃ a, a < s.2.2.2 ∧ pa = nI a) : ∀ (w j : Nat), j ≤ s.2.2.2 → s.2.2.2 - j < w → DX10_lookUp_2 N (HH h σ) w (h + 275) pa nm (nI j) = some (lkp (nmP s (pfv s pa) nm) (s.2.2.2 - j) j) := by
  intro w
  have hn := hI.n40
  induction w with
  | zero => intro j _ hw; omega
  | succ w ih =>
    intro j hj hw
    simp only [DX10_lookUp_2, DX10_lookUp_54, DX10_lookUp_58, DX10_lookUp_59, r_ck, r_0, r_1, r_2, r_3, r_4, r_5, r_6, r_7, r_8, r_9, r_10, r_11, r_12, r_13, r_14, r_15, r_16, r_17, r_18, r_19, r_20, r_21, r_22, r_23, r_24, r_25, r_26, r_27, r_28, r_29, r_30, r_31, r_32, r_33, r_34, r_35, r_36, r_37, rp_0, rp_1, rp_26, rp_28, rp_30, rp_33, rp_35, rp_37, hM.nn, Option.bind_some, bRT, bRW, bWW, bW, le0, ne10, if_true, if_false, not_true_eq_false, not_false_eq_true, uI_at, uA_1, uB_1, uG_1, uI_2]
    by_cases c : s.2.2.2 ≤ j
    · rw [if_pos (nI_le c (by omega)), show s.2.2.2 - j = 0 by omega]
      rfl
    · have hlt : j < s.2.2.2 := by omega
      rw [if_neg (nI_ge hlt (by omega)), show s.2.2.2 - j = (s.2.2.2 - (j + 1)) + 1 by omega]
      have ih' := ih (j + 1) (by omega) (by omega)
      simp only [lkp, Option.bind_some, bRT, bRW, bWW, bW, le0, ne10, if_true, if_false, not_true_eq_false, not_false_eq_true, uI_at, uA_1, uB_1, uG_1, uI_2, m_name hM hn hlt, m_par hM hn hlt, nI_1, ih']
      by_cases a : s.1 j 3 = nm
      · rw [if_pos a]
        rcases hI.par hlt with hp | ⟨p, hp, ep, _⟩
        · have hpf : pf s j = -1 := by rw [pfv_pf, hp, pfv_m1]
          rw [hp]
          simp only [ge0m, Option.bind_some, bRT, bRW, bWW, bW, le0, ne10, if_true, if_false, not_true_eq_false, not_false_eq_true, uI_at, uA_1, uB_1, uG_1, uI_2]
          rcases hpa with rfl | ⟨b, hb, rfl⟩
          · simp only [ge0m, Option.bind_some, bRT, bRW, bWW, bW, le0, ne10, if_true, if_false, not_true_eq_false, not_false_eq_true, uI_at, uA_1, uB_1, uG_1, uI_2]
            rw [if_pos ⟨a, by rw [hpf, pfv_m1]⟩]
          · simp only [nI_pos' (show b < 2 ^ 31 by omega), Option.bind_some, bRT, bRW, bWW, bW, le0, ne10, if_true, if_false, not_true_eq_false, not_false_eq_true, uI_at, uA_1, uB_1, uG_1, uI_2]
            rw [if_neg (fun q => fst_nm1 hI hb (by rw [← pfv_n s (show b < 2 ^ 31 by omega), ← q.2, hpf]))]
        · have hp' : p < s.2.2.2 := by omega
          have hpf : pf s j = s.1 p 4 := by rw [pfv_pf, ep, pfv_n s (by omega)]
          rw [ep]
          simp only [nI_pos' (show p < 2 ^ 31 by omega), Option.bind_some, bRT, bRW, bWW, bW, le0, ne10, if_true, if_false, not_true_eq_false, not_false_eq_true, uI_at, uA_1, uB_1, uG_1, uI_2]
          rcases hpa with rfl | ⟨b, hb, rfl⟩
          · simp only [ltm0, Option.bind_some, bRT, bRW, bWW, bW, le0, ne10, if_true, if_false, not_true_eq_false, not_false_eq_true, uI_at, uA_1, uB_1, uG_1, uI_2]
            rw [if_neg (fun q => fst_nm1 hI hp' (by rw [← hpf, q.2, pfv_m1]))]
          · simp only [nI_pos (show b < 2 ^ 31 by omega), f_same hN hM hI hp' hb, Option.bind_some, bRT, bRW, bWW, bW, le0, ne10, if_true, if_false, not_true_eq_false, not_false_eq_true, uI_at, uA_1, uB_1, uG_1, uI_2, ite01]
            by_cases e : s.1 p 4 = s.1 b 4
            · rw [if_neg (fun q => q e), if_pos ⟨a, by rw [hpf, pfv_n s (by omega)]; exact e⟩]
            · rw [if_pos e, if_neg (fun q => e (by rw [← hpf, ← pfv_n s (show b < 2 ^ 31 by omega)]; exact q.2))]
      · rw [if_neg a, if_neg (fun q => a q.1)]
theorem f_lk {N h : Nat} (hN : 10000 ≤ N) {σ : SG} {s : AS} (hM : RM σ s) (hI : Inv s) (pa nm : Int32) (hpa : pa = -1 ∨ ∃ a, a < s.2.2.2 ∧ pa = nI a) : DX10_lookUp N (h + 275) pa nm (HH h σ) = some (lkp (nmP s (pfv s pa) nm) s.2.2.2 0) := by
  have hn := hI.n40
  have := f_lk2 (N := N) (h := h) hN hM hI pa nm hpa N 0 (by omega) (by omega)
  rw [nI_0] at this
  simp only [DX10_lookUp, r_ck, Option.bind_some, bRT, bRW, bWW, bW, le0, ne10, if_true, if_false, not_true_eq_false, not_false_eq_true, uI_at, uA_1, uB_1, uG_1, uI_2, this, Nat.sub_zero]
