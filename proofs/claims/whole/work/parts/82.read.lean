/-! READING: lines, in the reference; both -/
def sim (s t : AS) : Prop := t.2.2.2 = s.2.2.2 ∧ (∀ i j, j ≠ 10 → t.1 i j = s.1 i j) ∧ (∀ i, t.2.2.1 i 1 = s.2.2.1 i 1) ∧ t.2.2.1 40 2 = s.2.2.1 40 2
theorem sim_tkV {s : AS} {m : Nat} (hm : m < 40) (X : List Int32) : sim s (tkV s m X) := by
  unfold tkV
  by_cases k : s.1 m 1 = 1 ∨ s.1 m 1 = 5
  · rw [if_pos k]
    exact ⟨rfl, fun i j _ => rfl, fun i => by simp [sQ], by rw [sQ_o (by omega)]⟩
  · rw [if_neg k]
    by_cases k2 : s.1 m 1 = 2
    · rw [if_pos k2]
      exact ⟨rfl, fun i j hj => by simp [sA, hj], fun i => rfl, rfl⟩
    · rw [if_neg k2]
      exact ⟨rfl, fun i j hj => by simp [sA, hj], fun i => rfl, rfl⟩
theorem anc_sim {s t : AS} (h : sim s t) (m : Nat) : ∀ k, anc t m k = anc s m k
  | 0 => rfl
  | k + 1 => by
    show (t.1 (anc t m k) 2).toNatClampNeg = (s.1 (anc s m k) 2).toNatClampNeg
    rw [anc_sim h m k, h.2.1 _ 2 (by omega)]
theorem dpf_sim {s t : AS} (h : sim s t) : ∀ w m, dpf t w m = dpf s w m
  | 0, _ => rfl
  | w + 1, m => by
    rw [dpf, dpf, h.2.1 _ 2 (by omega), dpf_sim h w]
theorem spl_sim {s t : AS} (h : sim s t) (m : Nat) : spl t m = spl s m := by
  unfold spl dpt
  rw [dpf_sim h]
  apply upL_q
  intro k _
  unfold nmf
  rw [anc_sim h, h.2.1 _ 3 (by omega)]
theorem mst_sim {s t : AS} (h : sim s t) (m : Nat) : mst t m ↔ mst s m := by
  unfold mst
  rw [h.2.1 _ 1 (by omega), h.2.1 _ 4 (by omega)]
theorem pre_sim {s t : AS} (h : sim s t) (p m : Nat) : pre t p m ↔ pre s p m := by
  unfold pre
  rw [h.2.2.2, spl_sim h]
theorem vat_sim {s t : AS} (h : sim s t) (p m : Nat) : vat t p m = vat s p m := by
  unfold vat
  rw [h.2.2.2, spl_sim h]
theorem okT_sim {s t : AS} (h : sim s t) (m : Nat) (X : List Int32) : okT t m X ↔ okT s m X := by
  unfold okT sgn rm
  rw [h.2.1 _ 1 (by omega), h.2.1 _ 21 (by omega), h.2.2.1]
def LT (s : AS) (p : Nat) : Prop := p < (s.2.2.1 40 2).length ∧ eol (s.2.2.1 40 2) p < (s.2.2.1 40 2).length ∧ ∃ m, m < s.2.2.2 ∧ mst s m ∧ s.1 m 6 = 0 ∧ pre s p m ∧ okT s m (vat s p m)
def ALLT (s : AS) : Nat → Nat → Prop
  | 0, p => (s.2.2.1 40 2).length ≤ p
  | k + 1, p => LT s p ∧ ALLT s k (eol (s.2.2.1 40 2) p + 1)
theorem LT_sim {s t : AS} (h : sim s t) (p : Nat) : LT t p ↔ LT s p := by
  unfold LT
  rw [h.2.2.2, h.1]
  constructor
  · rintro ⟨a, b, m, c, d, e, f, g⟩
    exact ⟨a, b, m, c, (mst_sim h m).mp d, by rw [← h.2.1 m 6 (by omega)]; exact e, (pre_sim h p m).mp f, by rw [vat_sim h] at g; exact (okT_sim h m _).mp g⟩
  · rintro ⟨a, b, m, c, d, e, f, g⟩
    exact ⟨a, b, m, c, (mst_sim h m).mpr d, by rw [h.2.1 m 6 (by omega)]; exact e, (pre_sim h p m).mpr f, by rw [vat_sim h]; exact (okT_sim h m _).mpr g⟩
theorem ALLT_sim {s t : AS} (h : sim s t) : ∀ k p, ALLT t k p ↔ ALLT s k p
  | 0, p => by
    unfold ALLT
    rw [h.2.2.2]
  | k + 1, p => by
    unfold ALLT
    rw [LT_sim h, h.2.2.2, ALLT_sim h k]
theorem f_tl0 {N h : Nat} (hN : 10000 ≤ N) {s : AS} (hI : Inv s) (hlen : ∀ q, q < 40 → (s.2.2.1 q 0).length ≤ 30 ∧ (s.2.2.1 q 1).length ≤ 12) (hl : (s.2.2.1 40 2).length ≤ 3000) {p : Nat} (hp : p ≤ (s.2.2.1 40 2).length) (hun : ∀ m m', m < s.2.2.2 → m' < s.2.2.2 → mst s m → mst s m' → pre s p m → pre s p m' → m = m') : ∀ (w j : Nat) (σ : SG), s.2.2.2 - j < w → j ≤ s.2.2.2 → RM σ s → ∃ τ b, DX10_takeLine_3 N w (h + 275) (nI p) (nI (eol (s.2.2.1 40 2) p)) 0 (nI j) (HH h σ) = some (b, HH h τ) ∧ (b = 0 ∨ b = 1) ∧ (b = 1 ↔ ∃ m, j ≤ m ∧ m < s.2.2.2 ∧ mst s m ∧ s.1 m 6 = 0 ∧ pre s p m ∧ okV s m (vat s p m)) ∧ RM τ s ∧ fm σ τ ∧ τ.1 275 0 = σ.1 275 0 := by
  have hn := hI.n40
  obtain ⟨e1, e2⟩ := eol_ge hp
  intro w
  induction w with
  | zero => intro j σ hw; omega
  | succ w ih =>
    intro j σ hw hj hM
    simp only [DX10_takeLine_3, DX10_takeLine_62, r_ck, r_0, r_1, r_2, r_3, r_4, r_5, r_6, r_7, r_8, r_9, r_10, r_11, r_12, r_13, r_14, r_15, r_16, r_17, r_18, r_19, r_20, r_21, r_22, r_23, r_24, r_25, r_26, r_27, r_28, r_29, r_30, r_31, r_32, r_33, r_34, r_35, r_36, r_37, rp_0, rp_1, rp_26, rp_28, rp_30, rp_33, rp_35, rp_37, Option.bind_some, bRT, bRW, bWW, bW, le0, ne10, if_true, if_false, not_true_eq_false, not_false_eq_true, uI_at, uA_1, uB_1, uG_1, uI_2, hM.nn]
    by_cases z : s.2.2.2 ≤ j
    · exact ⟨σ, 0, by rw [if_pos (nI_le z (by omega))], Or.inl rfl, ⟨fun q => absurd q (by decide), fun ⟨m, h1, h2, _⟩ => by omega⟩, hM, fm.rf, rfl⟩
    · have hlt : j < s.2.2.2 := by omega
      rw [if_neg (nI_ge hlt (by omega))]
      simp only [f_isMaster hM hn hlt, Option.bind_some, bRT, bRW, bWW, bW, le0, ne10, if_true, if_false, not_true_eq_false, not_false_eq_true, uI_at, uA_1, uB_1, uG_1, uI_2, ite01, m_lock hM hn hlt, nI_1]
      have next : ∀ σ1, RM σ1 s → fm σ σ1 → σ1.1 275 0 = σ.1 275 0 → ¬ (mst s j ∧ s.1 j 6 = 0 ∧ pre s p j ∧ okV s j (vat s p j)) → ∃ τ b, DX10_takeLine_3 N w (h + 275) (nI p) (nI (eol (s.2.2.1 40 2) p)) 0 (nI (j + 1)) (HH h σ1) = some (b, HH h τ) ∧ (b = 0 ∨ b = 1) ∧ (b = 1 ↔ ∃ m, j ≤ m ∧ m < s.2.2.2 ∧ mst s m ∧ s.1 m 6 = 0 ∧ pre s p m ∧ okV s m (vat s p m)) ∧ RM τ s ∧ fm σ τ ∧ τ.1 275 0 = σ.1 275 0 := fun σ1 hM1 hf h0 hno => by
        obtain ⟨τ, b, t1, t2, t3, t4, t5, t6⟩ := ih (j + 1) σ1 (by omega) (by omega) hM1
        refine ⟨τ, b, t1, t2, t3.trans ⟨fun ⟨m, h1, h2⟩ => ⟨m, by omega, h2⟩, fun ⟨m, h1, h2, h3⟩ => ?_⟩, t4, hf.tr t5, by rw [t6, h0]⟩
        by_cases e : m = j
        · subst e
          exact absurd h3 hno
        · exact ⟨m, by omega, h2, h3⟩
      by_cases c1 : mst s j
      · rw [if_neg (fun q => q c1)]
        by_cases c2 : s.1 j 6 = 0
        · rw [if_pos c2]
          obtain ⟨σ1, r, t1, t2, t3, t4, t5⟩ := f_behind (N := N) (h := h) hN hM hI hl hlt hp
          rw [t1]
          simp only [Option.bind_some, bRT, bRW, bWW, bW, le0, ne10, if_true, if_false, not_true_eq_false, not_false_eq_true, uI_at, uA_1, uB_1, uG_1, uI_2]
          rcases t5 with ⟨u1, u2⟩ | ⟨u1, u2⟩
          · obtain ⟨a1, a2, a3⟩ := pre_q hp u1
            obtain ⟨τ, b, v1, v2, v3, v4, v5, v6⟩ := f_tv0 (N := N) (h := h) hN t2 hI hlen hl hlt c1.1 a1 e2
            rw [u2, if_neg (nI_pos (by omega)), if_neg (nI_nlt a1 (by omega)), v1]
            simp only [Option.bind_some, bRT, bRW, bWW, bW, le0, ne10, if_true, if_false, not_true_eq_false, not_false_eq_true, uI_at, uA_1, uB_1, uG_1, uI_2, if_pos v2]
            refine ⟨τ, b, rfl, v2, v3.trans ⟨fun q => ⟨j, Nat.le_refl _, hlt, c1, c2, u1, q⟩, fun ⟨m, h1, h2, h3, h4, h5, h6⟩ => ?_⟩, v4, t3.tr v5, by rw [v6, t4]⟩
            have := hun m j h2 hlt h3 c1 h5 u1
            subst this
            exact h6
          · rw [u2, if_pos (by decide)]
            exact next σ1 t2 t3 t4 (fun q => u1 q.2.2.1)
        · rw [if_neg c2]
          exact next σ hM fm.rf rfl (fun q => c2 q.2.1)
      · rw [if_pos c1]
        exact next σ hM fm.rf rfl (fun q => c1 q.1)
theorem f_tl1 {N h : Nat} (hN : 10000 ≤ N) {s : AS} (hI : Inv s) (hlen : ∀ q, q < 40 → (s.2.2.1 q 0).length ≤ 30 ∧ (s.2.2.1 q 1).length ≤ 12) (hl : (s.2.2.1 40 2).length ≤ 3000) {p m : Nat} (hp : p ≤ (s.2.2.1 40 2).length) (hun : ∀ m', m' < s.2.2.2 → mst s m' → pre s p m' → m' = m) (hm : m < s.2.2.2) (hms : mst s m) (hlk : s.1 m 6 = 0) (hpre : pre s p m) (hok : okT s m (vat s p m)) : ∀ (w j : Nat) (σ : SG), s.2.2.2 - j < w → j ≤ m → RM σ s → ∃ τ, DX10_takeLine_3 N w (h + 275) (nI p) (nI (eol (s.2.2.1 40 2) p)) 1 (nI j) (HH h σ) = some (1, HH h τ) ∧ RM τ (tkV s m (vat s p m)) ∧ fm σ τ ∧ τ.1 275 0 = σ.1 275 0 := by
  have hn := hI.n40
  obtain ⟨e1, e2⟩ := eol_ge hp
  intro w
  induction w with
  | zero => intro j σ hw; omega
  | succ w ih =>
    intro j σ hw hj hM
    have hlt : j < s.2.2.2 := by omega
    simp only [DX10_takeLine_3, DX10_takeLine_62, r_ck, r_0, r_1, r_2, r_3, r_4, r_5, r_6, r_7, r_8, r_9, r_10, r_11, r_12, r_13, r_14, r_15, r_16, r_17, r_18, r_19, r_20, r_21, r_22, r_23, r_24, r_25, r_26, r_27, r_28, r_29, r_30, r_31, r_32, r_33, r_34, r_35, r_36, r_37, rp_0, rp_1, rp_26, rp_28, rp_30, rp_33, rp_35, rp_37, Option.bind_some, bRT, bRW, bWW, bW, le0, ne10, if_true, if_false, not_true_eq_false, not_false_eq_true, uI_at, uA_1, uB_1, uG_1, uI_2, hM.nn]
    rw [if_neg (nI_ge hlt (by omega))]
    simp only [f_isMaster hM hn hlt, Option.bind_some, bRT, bRW, bWW, bW, le0, ne10, if_true, if_false, not_true_eq_false, not_false_eq_true, uI_at, uA_1, uB_1, uG_1, uI_2, ite01, m_lock hM hn hlt, nI_1]
    have next : ∀ σ1, RM σ1 s → fm σ σ1 → σ1.1 275 0 = σ.1 275 0 → ¬ j = m → ∃ τ, DX10_takeLine_3 N w (h + 275) (nI p) (nI (eol (s.2.2.1 40 2) p)) 1 (nI (j + 1)) (HH h σ1) = some (1, HH h τ) ∧ RM τ (tkV s m (vat s p m)) ∧ fm σ τ ∧ τ.1 275 0 = σ.1 275 0 := fun σ1 hM1 hf h0 hno => by
      obtain ⟨τ, t1, t2, t3, t4⟩ := ih (j + 1) σ1 (by omega) (by omega) hM1
      exact ⟨τ, t1, t2, hf.tr t3, by rw [t4, h0]⟩
    by_cases c1 : mst s j
    · rw [if_neg (fun q => q c1)]
      by_cases c2 : s.1 j 6 = 0
      · rw [if_pos c2]
        obtain ⟨σ1, r, t1, t2, t3, t4, t5⟩ := f_behind (N := N) (h := h) hN hM hI hl hlt hp
        rw [t1]
        simp only [Option.bind_some, bRT, bRW, bWW, bW, le0, ne10, if_true, if_false, not_true_eq_false, not_false_eq_true, uI_at, uA_1, uB_1, uG_1, uI_2]
        rcases t5 with ⟨u1, u2⟩ | ⟨u1, u2⟩
        · have := hun j hlt c1 u1
          subst this
          obtain ⟨a1, a2, a3⟩ := pre_q hp u1
          obtain ⟨τ, v1, v2, v3, v4⟩ := f_tv1 (N := N) (h := h) hN t2 hI hlen hl hlt c1.1 a1 e2 hok
          rw [u2, if_neg (nI_pos (by omega)), if_neg (nI_nlt a1 (by omega)), v1]
          simp only [Option.bind_some, bRT, bRW, bWW, bW, le0, ne10, if_true, if_false, not_true_eq_false, not_false_eq_true, uI_at, uA_1, uB_1, uG_1, uI_2, or_true]
          exact ⟨τ, rfl, v2, t3.tr v3, by rw [v4, t4]⟩
        · rw [u2, if_pos (by decide)]
          exact next σ1 t2 t3 t4 (fun q => u1 (by rw [q]; exact hpre))
      · rw [if_neg c2]
        exact next σ hM fm.rf rfl (fun q => c2 (by rw [q]; exact hlk))
    · rw [if_pos c1]
      exact next σ hM fm.rf rfl (fun q => c1 (by rw [q]; exact hms))
theorem f_go23 {N h : Nat} {σ : SG} {s : AS} (hM : RM σ s) (hl : (s.2.2.1 40 2).length ≤ 3000) (k7 : Nat → Int32 → Int32 → Int32 → Int32 → HF → Option (Int32 × HF)) (v1 v2 v3 : Int32) : ∀ (w j : Nat), j ≤ (s.2.2.1 40 2).length → (s.2.2.1 40 2).length - j < w → DX10_goOver_23 N k7 w (h + 275) v1 v2 v3 (nI j) (HH h σ) = DX10_goOver_50 N k7 (h + 275) v1 v2 v3 (nI (nxt (s.2.2.1 40 2) 10 ((s.2.2.1 40 2).length - j) j)) (HH h σ) := by
  intro w
  induction w with
  | zero => intro j _ hw; omega
  | succ w ih =>
    intro j hj hw
    simp only [DX10_goOver_23, r_ck, r_0, r_1, r_2, r_3, r_4, r_5, r_6, r_7, r_8, r_9, r_10, r_11, r_12, r_13, r_14, r_15, r_16, r_17, r_18, r_19, r_20, r_21, r_22, r_23, r_24, r_25, r_26, r_27, r_28, r_29, r_30, r_31, r_32, r_33, r_34, r_35, r_36, r_37, rp_0, rp_1, rp_26, rp_28, rp_30, rp_33, rp_35, rp_37, Option.bind_some, bRT, bRW, bWW, bW, le0, ne10, if_true, if_false, not_true_eq_false, not_false_eq_true, uI_at, uA_1, uB_1, uG_1, uI_2, hM.inp.1]
    by_cases z : (s.2.2.1 40 2).length ≤ j
    · rw [if_pos (nI_le z (by omega)), show (s.2.2.1 40 2).length - j = 0 by omega]
      rfl
    · have hlt : j < (s.2.2.1 40 2).length := by omega
      rw [if_neg (nI_ge hlt (by omega)), show (s.2.2.1 40 2).length - j = ((s.2.2.1 40 2).length - (j + 1)) + 1 by omega, nxt]
      simp only [m_in hM hlt hl, Option.bind_some, bRT, bRW, bWW, bW, le0, ne10, if_true, if_false, not_true_eq_false, not_false_eq_true, uI_at, uA_1, uB_1, uG_1, uI_2, nI_1]
      by_cases c : (s.2.2.1 40 2).getD j 0 = 10
      · rw [if_pos c, if_pos c]
      · rw [if_neg c, if_neg c]
        exact ih (j + 1) (by omega) (by omega)
theorem neg1 {v : Nat} (h : v ≤ 3000) : (-1 : Int32) - nI v < 0 := by
  rw [Int32.lt_iff_toInt_lt, Int32.toInt_sub, nIT (by omega), im1T, i0T, Int.bmod_eq_of_le (by omega) (by omega)]
  omega
theorem both_check {N h : Nat} (hN : 10000 ≤ N) {σ : SG} {s : AS} (hC : RC σ s) (hI : Inv s) : ∀ (w p v : Nat), (s.2.2.1 40 2).length - p < w → p ≤ (s.2.2.1 40 2).length → v ≤ p → ∃ x, DX4_checkAll_6 N (HH h σ) w (h + 258) (nI v) (nI p) (nI v) = some (.inl x) ∧ ((∃ k, x = nI (v + k) ∧ v + k ≤ 3000 ∧ ALLT s k p) ∨ x < 0) ∧ ∀ (σ' : SG) (w' : Nat), RM σ' s → (s.2.2.1 40 2).length - p + 2 < w' → ∃ τ, DX10_goOver_7 N w' (h + 275) 0 (nI v) (nI p) 1 (HH h σ') = some (x, HH h τ) ∧ RM τ s ∧ fm σ' τ ∧ τ.1 275 0 = σ'.1 275 0 := by
  have hl := hC.inlen
  have hn := hI.n40
  intro w
  induction w with
  | zero => intro p v hw; omega
  | succ w ih =>
    intro p v hw hp hv
    have stop : (s.2.2.1 40 2).length ≤ p → (∃ k, nI v = nI (v + k) ∧ v + k ≤ 3000 ∧ ALLT s k p) ∧ ∀ (σ' : SG) (w' : Nat), RM σ' s → (s.2.2.1 40 2).length - p + 2 < w' → ∃ τ, DX10_goOver_7 N w' (h + 275) 0 (nI v) (nI p) 1 (HH h σ') = some (nI v, HH h τ) ∧ RM τ s ∧ fm σ' τ ∧ τ.1 275 0 = σ'.1 275 0 := fun z => by
      refine ⟨⟨0, rfl, by omega, z⟩, fun σ' w' hM hw' => ⟨σ', ?_, hM, fm.rf, rfl⟩⟩
      obtain ⟨w', rfl⟩ : ∃ u, w' = u + 1 := ⟨w' - 1, by omega⟩
      simp only [DX10_goOver_7, DX10_goOver_98, r_ck, r_0, r_1, r_2, r_3, r_4, r_5, r_6, r_7, r_8, r_9, r_10, r_11, r_12, r_13, r_14, r_15, r_16, r_17, r_18, r_19, r_20, r_21, r_22, r_23, r_24, r_25, r_26, r_27, r_28, r_29, r_30, r_31, r_32, r_33, r_34, r_35, r_36, r_37, rp_0, rp_1, rp_26, rp_28, rp_30, rp_33, rp_35, rp_37, Option.bind_some, bRT, bRW, bWW, bW, le0, ne10, if_true, if_false, not_true_eq_false, not_false_eq_true, uI_at, uA_1, uB_1, uG_1, uI_2, hM.inp.1]
      rw [if_pos (nI_le z (by omega))]
    rw [DX4_checkAll_6]
    by_cases c3 : 3000 ≤ v
    · obtain ⟨u1, u2⟩ := stop (by omega)
      exact ⟨nI v, by rw [if_pos (show (3000 : Int32) ≤ nI v from nI_le (a := 3000) c3 (by omega))], Or.inl u1, u2⟩
    · rw [if_neg (show ¬ (3000 : Int32) ≤ nI v from nI_ge (b := 3000) (by omega) (by omega))]
      simp only [o_ck, o_0, o_1, o_2, o_3, o_4, o_5, o_6, t_ck, t_0, v_ck, v_0, q_ck, q_0, q_1, q_2, q_3, q_4, wr_ck, wr_0, wr_1, wr_2, rd_ck, rd_0, rd_1, Option.bind_some, bRT, bRW, bWW, bW, le0, ne10, if_true, if_false, not_true_eq_false, not_false_eq_true, uI_at, uA_1, uB_1, uG_1, uI_2, e_cntL hC.inp]
      by_cases z : (s.2.2.1 40 2).length ≤ p
      · obtain ⟨u1, u2⟩ := stop z
        exact ⟨nI v, by rw [if_pos (nI_le z (by omega))], Or.inl u1, u2⟩
      · have hlt : p < (s.2.2.1 40 2).length := by omega
        obtain ⟨e1, e2⟩ := eol_ge hp
        obtain ⟨b, b1, b2, b3⟩ := e_isGood (N := N) (h := h) hN hC hI hp
        rw [if_neg (nI_ge hlt (by omega))]
        simp only [e_endOf hN hC hp, Option.bind_some, bRT, bRW, bWW, bW, le0, ne10, if_true, if_false, not_true_eq_false, not_false_eq_true, uI_at, uA_1, uB_1, uG_1, uI_2, b1, nI_1]
        have ref : ∀ (σ' : SG) (u : Nat), RM σ' s → ∃ τ, RM τ s ∧ fm σ' τ ∧ τ.1 275 0 = σ'.1 275 0 ∧ DX10_goOver_7 N (u + 1) (h + 275) 0 (nI v) (nI p) 1 (HH h σ') = (if b = 0 then DX10_goOver_7 N u (h + 275) 0 (nI v) (nI (eol (s.2.2.1 40 2) p + 1)) 0 (HH h τ) else DX10_goOver_7 N u (h + 275) 0 (nI (v + 1)) (nI (eol (s.2.2.1 40 2) p + 1)) 1 (HH h τ)) := fun σ' u hM => by
          have h23 := f_go23 (N := N) (h := h) hM hl (DX10_goOver_7 N u) 0 (nI v) (nI p) N p hp (by omega)
          have hstep : DX10_goOver_7 N (u + 1) (h + 275) 0 (nI v) (nI p) 1 (HH h σ') = DX10_goOver_50 N (DX10_goOver_7 N u) (h + 275) 0 (nI v) (nI p) (nI (eol (s.2.2.1 40 2) p)) (HH h σ') := by
            simp only [DX10_goOver_7, r_ck, r_0, r_1, r_2, r_3, r_4, r_5, r_6, r_7, r_8, r_9, r_10, r_11, r_12, r_13, r_14, r_15, r_16, r_17, r_18, r_19, r_20, r_21, r_22, r_23, r_24, r_25, r_26, r_27, r_28, r_29, r_30, r_31, r_32, r_33, r_34, r_35, r_36, r_37, rp_0, rp_1, rp_26, rp_28, rp_30, rp_33, rp_35, rp_37, Option.bind_some, bRT, bRW, bWW, bW, le0, ne10, if_true, if_false, not_true_eq_false, not_false_eq_true, uI_at, uA_1, uB_1, uG_1, uI_2, hM.inp.1]
            rw [if_neg (nI_ge hlt (by omega)), h23]
            rfl
          rw [hstep]
          simp only [DX10_goOver_50, DX10_goOver_74, DX10_goOver_75, DX10_goOver_89, r_ck, r_0, r_1, r_2, r_3, r_4, r_5, r_6, r_7, r_8, r_9, r_10, r_11, r_12, r_13, r_14, r_15, r_16, r_17, r_18, r_19, r_20, r_21, r_22, r_23, r_24, r_25, r_26, r_27, r_28, r_29, r_30, r_31, r_32, r_33, r_34, r_35, r_36, r_37, rp_0, rp_1, rp_26, rp_28, rp_30, rp_33, rp_35, rp_37, Option.bind_some, bRT, bRW, bWW, bW, le0, ne10, if_true, if_false, not_true_eq_false, not_false_eq_true, uI_at, uA_1, uB_1, uG_1, uI_2, hM.inp.1, nI_1]
          by_cases y : (s.2.2.1 40 2).length ≤ eol (s.2.2.1 40 2) p
          · have b0 : b = 0 := b2.resolve_right (fun q => by have := (b3.mp q).1; omega)
            rw [if_pos (nI_le y (by omega))]
            exact ⟨σ', hM, fm.rf, rfl, by rw [if_pos b0]⟩
          · rw [if_neg (nI_ge (show eol (s.2.2.1 40 2) p < (s.2.2.1 40 2).length by omega) (by omega))]
            obtain ⟨τ, g, t1, t2, t3, t4, t5, t6⟩ := f_tl0 (N := N) (h := h) hN hI (fun q hq => hC.len hq) hl hp (fun m m' a1 a2 a3 a4 a5 a6 => pre_un (N := N) (h := h) hN hC hI hp a1 a2 a3 a4 a5 a6) N 0 σ' (by omega) (by omega) hM
            rw [nI_0] at t1
            simp only [DX10_takeLine, r_ck, Option.bind_some, bRT, bRW, bWW, bW, le0, ne10, if_true, if_false, not_true_eq_false, not_false_eq_true, uI_at, uA_1, uB_1, uG_1, uI_2, t1]
            have hg : g = b := by
              have hgb : g = 1 ↔ b = 1 := by
                rw [t3, b3]
                exact ⟨fun ⟨m, _, q⟩ => ⟨by omega, m, q⟩, fun ⟨_, m, q⟩ => ⟨m, by omega, q⟩⟩
              rcases t2 with q | q
              · rcases b2 with q' | q'
                · rw [q, q']
                · have := hgb.mpr q'
                  rw [q] at this
                  exact absurd this (by decide)
              · rw [q, hgb.mp q]
            rw [hg]
            exact ⟨τ, t4, t5, t6, rfl⟩
        rcases b2 with b0 | b0
        · refine ⟨-1 - nI v, by rw [if_pos b0], Or.inr (neg1 (by omega)), fun σ' w' hM hw' => ?_⟩
          obtain ⟨u, rfl⟩ : ∃ u, w' = (u + 1) + 1 := ⟨w' - 2, by omega⟩
          obtain ⟨τ, t1, t2, t3, t4⟩ := ref σ' (u + 1) hM
          refine ⟨τ, ?_, t1, t2, t3⟩
          rw [t4, if_pos b0]
          simp only [DX10_goOver_7, DX10_goOver_98, r_ck, r_0, r_1, r_2, r_3, r_4, r_5, r_6, r_7, r_8, r_9, r_10, r_11, r_12, r_13, r_14, r_15, r_16, r_17, r_18, r_19, r_20, r_21, r_22, r_23, r_24, r_25, r_26, r_27, r_28, r_29, r_30, r_31, r_32, r_33, r_34, r_35, r_36, r_37, rp_0, rp_1, rp_26, rp_28, rp_30, rp_33, rp_35, rp_37, Option.bind_some, bRT, bRW, bWW, bW, le0, ne10, if_true, if_false, not_true_eq_false, not_false_eq_true, uI_at, uA_1, uB_1, uG_1, uI_2, ite_self]
        · have g1 : eol (s.2.2.1 40 2) p < (s.2.2.1 40 2).length := (b3.mp b0).1
          have g2 : (s.2.2.1 40 2).length - (eol (s.2.2.1 40 2) p + 1) < w := by omega
          have g3 : eol (s.2.2.1 40 2) p + 1 ≤ (s.2.2.1 40 2).length := by omega
          have g4 : v + 1 ≤ eol (s.2.2.1 40 2) p + 1 := by omega
          have g5 : ∀ u, (s.2.2.1 40 2).length - p + 2 < u + 1 → (s.2.2.1 40 2).length - (eol (s.2.2.1 40 2) p + 1) + 2 < u := fun u hu => by omega
          have hgd := b3.mp b0
          obtain ⟨x, x1, x2, x3⟩ := ih (eol (s.2.2.1 40 2) p + 1) (v + 1) g2 g3 g4
          refine ⟨x, by rw [if_neg (by rw [b0]; decide)]; exact x1, ?_, fun σ' w' hM hw' => ?_⟩
          · rcases x2 with ⟨k, k1, k2, k3⟩ | x2
            · refine Or.inl ⟨k + 1, by rw [k1, show v + 1 + k = v + (k + 1) by clear hgd; omega], by clear hgd; omega, ⟨hlt, hgd.1, ?_⟩, k3⟩
              obtain ⟨_, m, m1, m2, m3, m4, m5⟩ := hgd
              exact ⟨m, m1, m2, m3, m4, m5.1⟩
            · exact Or.inr x2
          · obtain ⟨u, rfl⟩ : ∃ u, w' = u + 1 := ⟨w' - 1, by clear hgd x2; omega⟩
            obtain ⟨τ, t1, t2, t3, t4⟩ := ref σ' u hM
            obtain ⟨υ, v1, v2, v3, v4⟩ := x3 τ u t1 (g5 u hw')
            refine ⟨υ, ?_, v2, t2.tr v3, by rw [v4, t3]⟩
            rw [t4, if_neg (by rw [b0]; decide)]
            exact v1
theorem both_take {N h : Nat} (hN : 10000 ≤ N) : ∀ (k p v w : Nat) (σ : SG) (s : AS), RC σ s → Inv s → ALLT s k p → v + k ≤ 3000 → k < w → p ≤ (s.2.2.1 40 2).length → ∃ s1 σ1, DX4_takeAll_4 N w (h + 258) (nI (v + k)) (nI p) (nI v) (HH h σ) = some (.inl (), HH h σ1) ∧ RC σ1 s1 ∧ Inv s1 ∧ fc σ σ1 ∧ ∀ (σ' : SG) (w' : Nat), RM σ' s → k + 1 < w' → ∃ τ, DX10_goOver_7 N w' (h + 275) 1 (nI v) (nI p) 1 (HH h σ') = some (nI (v + k), HH h τ) ∧ RM τ s1 ∧ fm σ' τ ∧ τ.1 275 0 = σ'.1 275 0 := by
  intro k
  induction k with
  | zero =>
    intro p v w σ s hC hI ha hv hw hp
    have hl := hC.inlen
    obtain ⟨w, rfl⟩ : ∃ u, w = u + 1 := ⟨w - 1, by omega⟩
    refine ⟨s, σ, ?_, hC, hI, fc.rf, fun σ' w' hM hw' => ⟨σ', ?_, hM, fm.rf, rfl⟩⟩
    · rw [DX4_takeAll_4, if_pos (nI_le (by omega) (by omega))]
    · obtain ⟨w', rfl⟩ : ∃ u, w' = u + 1 := ⟨w' - 1, by omega⟩
      simp only [DX10_goOver_7, DX10_goOver_98, r_ck, r_0, r_1, r_2, r_3, r_4, r_5, r_6, r_7, r_8, r_9, r_10, r_11, r_12, r_13, r_14, r_15, r_16, r_17, r_18, r_19, r_20, r_21, r_22, r_23, r_24, r_25, r_26, r_27, r_28, r_29, r_30, r_31, r_32, r_33, r_34, r_35, r_36, r_37, rp_0, rp_1, rp_26, rp_28, rp_30, rp_33, rp_35, rp_37, Option.bind_some, bRT, bRW, bWW, bW, le0, ne10, if_true, if_false, not_true_eq_false, not_false_eq_true, uI_at, uA_1, uB_1, uG_1, uI_2, hM.inp.1]
      rw [if_pos (nI_le ha (by omega))]
      rfl
  | succ k ih =>
    intro p v w σ s hC hI ha hv hw hp
    have hl := hC.inlen
    have hn := hI.n40
    obtain ⟨w, rfl⟩ : ∃ u, w = u + 1 := ⟨w - 1, by omega⟩
    obtain ⟨⟨a1, a2, m, m1, m2, m3, m4, m5⟩, a3⟩ := ha
    obtain ⟨e1, e2⟩ := eol_ge hp
    obtain ⟨σ2, t1, t2, t3⟩ := e_take (N := N) (h := h) hN hC hI hp m1 m2 m4 m5
    have hs := sim_tkV (s := s) (m := m) (by omega) (vat s p m)
    have hI2 := inv_tkV hI m1 m5
    obtain ⟨s1, σ1, u1, u2, u3, u4, u5⟩ := ih (eol (s.2.2.1 40 2) p + 1) (v + 1) w σ2 (tkV s m (vat s p m)) t2 hI2 ((ALLT_sim hs k _).mpr a3) (by omega) (by omega) (by rw [hs.2.2.2]; omega)
    rw [show v + 1 + k = v + (k + 1) by omega] at u1 u5
    refine ⟨s1, σ1, ?_, u2, u3, t3.tr u4, fun σ' w' hM hw' => ?_⟩
    · rw [DX4_takeAll_4, if_neg (nI_ge (show v < v + (k + 1) by omega) (by omega)), e_endOf hN hC hp]
      simp only [Option.bind_some, bRT, bRW, bWW, bW, le0, ne10, if_true, if_false, not_true_eq_false, not_false_eq_true, uI_at, uA_1, uB_1, uG_1, uI_2, t1, nI_1]
      exact u1
    · obtain ⟨u, rfl⟩ : ∃ u, w' = u + 1 := ⟨w' - 1, by omega⟩
      have h23 := f_go23 (N := N) (h := h) hM hl (DX10_goOver_7 N u) 1 (nI v) (nI p) N p hp (by omega)
      obtain ⟨τ, v1, v2, v3, v4⟩ := f_tl1 (N := N) (h := h) hN hI (fun q hq => hC.len hq) hl hp (fun m' b1 b2 b3 => pre_un (N := N) (h := h) hN hC hI hp b1 m1 b2 m2 b3 m4) m1 m2 m3 m4 m5 N 0 σ' (by omega) (by omega) hM
      rw [nI_0] at v1
      obtain ⟨υ, w1, w2, w3, w4⟩ := u5 τ u v2 (by omega)
      refine ⟨υ, ?_, w2, v3.tr w3, by rw [w4, v4]⟩
      have hstep : DX10_goOver_7 N (u + 1) (h + 275) 1 (nI v) (nI p) 1 (HH h σ') = DX10_goOver_50 N (DX10_goOver_7 N u) (h + 275) 1 (nI v) (nI p) (nI (eol (s.2.2.1 40 2) p)) (HH h σ') := by
        simp only [DX10_goOver_7, r_ck, r_0, r_1, r_2, r_3, r_4, r_5, r_6, r_7, r_8, r_9, r_10, r_11, r_12, r_13, r_14, r_15, r_16, r_17, r_18, r_19, r_20, r_21, r_22, r_23, r_24, r_25, r_26, r_27, r_28, r_29, r_30, r_31, r_32, r_33, r_34, r_35, r_36, r_37, rp_0, rp_1, rp_26, rp_28, rp_30, rp_33, rp_35, rp_37, Option.bind_some, bRT, bRW, bWW, bW, le0, ne10, if_true, if_false, not_true_eq_false, not_false_eq_true, uI_at, uA_1, uB_1, uG_1, uI_2, hM.inp.1]
        rw [if_neg (nI_ge a1 (by omega)), h23]
        rfl
      rw [hstep]
      simp only [DX10_goOver_50, DX10_goOver_74, DX10_goOver_75, DX10_goOver_89, r_ck, r_0, r_1, r_2, r_3, r_4, r_5, r_6, r_7, r_8, r_9, r_10, r_11, r_12, r_13, r_14, r_15, r_16, r_17, r_18, r_19, r_20, r_21, r_22, r_23, r_24, r_25, r_26, r_27, r_28, r_29, r_30, r_31, r_32, r_33, r_34, r_35, r_36, r_37, rp_0, rp_1, rp_26, rp_28, rp_30, rp_33, rp_35, rp_37, Option.bind_some, bRT, bRW, bWW, bW, le0, ne10, if_true, if_false, not_true_eq_false, not_false_eq_true, uI_at, uA_1, uB_1, uG_1, uI_2, hM.inp.1, nI_1]
      rw [if_neg (nI_ge a2 (by omega))]
      simp only [DX10_takeLine, r_ck, Option.bind_some, bRT, bRW, bWW, bW, le0, ne10, if_true, if_false, not_true_eq_false, not_false_eq_true, uI_at, uA_1, uB_1, uG_1, uI_2, v1]
      exact w1
/-! read -/
theorem RM.iclear {σ : SG} {s : AS} (hM : RM σ s) : RM (uI σ 275 37 0) (sQ s 40 2 []) := by
  have hj : ∀ j, j ≠ 37 → (uI σ 275 37 0).1 275 j = σ.1 275 j := fun j hj => uI_ne _ _ _ _ (by omega)
  refine ⟨by rw [hj 1 (by omega)]; exact hM.nn, fun q hq => (hM.F hq).cong (fun k _ _ _ _ _ _ _ => rfl) ⟨rfl, rfl⟩ rfl rfl (fun _ => ⟨rfl, rfl⟩), fun q hq => (hM.W hq).cong (fun k _ _ _ _ _ => rfl) (fun j _ => rfl) (fun j _ => rfl) (fun j _ => rfl) rfl (sQ_o (by omega)), ⟨?_, ?_, ⟨?_, ?_⟩⟩, ?_, ?_⟩
  · exact hM.fai.cong (hj _ (by omega)) rfl (by simp [sQ])
  · exact hM.dat.cong (hj _ (by omega)) rfl (by simp [sQ])
  · rw [sQ_at, uI_at]
    rfl
  · rw [sQ_at]
    intro q hq
    exact absurd hq (by simp)
  · exact hM.made.cong (hj _ (by omega)) rfl (sQ_o (by omega))
  · exact hM.kept.cong (hj _ (by omega)) rfl (sQ_o (by omega))
theorem RM.ipush {σ : SG} {s : AS} (hM : RM σ s) (x : Int32) : RM (uI (uA σ 305 (s.2.2.1 40 2).length x) 275 37 (nI ((s.2.2.1 40 2).length + 1))) (sQ s 40 2 (s.2.2.1 40 2 ++ [x])) := by
  have hk : ∀ k, k ≠ 305 → (uI (uA σ 305 (s.2.2.1 40 2).length x) 275 37 (nI ((s.2.2.1 40 2).length + 1))).2.2.1 k = σ.2.2.1 k := fun k hk => by funext c; exact uA_ne _ _ _ _ (by omega)
  have hj : ∀ j, j ≠ 37 → (uI (uA σ 305 (s.2.2.1 40 2).length x) 275 37 (nI ((s.2.2.1 40 2).length + 1))).1 275 j = σ.1 275 j := fun j hj => uI_ne _ _ _ _ (by omega)
  refine ⟨by rw [hj 1 (by omega)]; exact hM.nn, fun q hq => (hM.F hq).cong (fun k a b _ _ _ _ _ => by rw [hk k (by omega)]) ⟨rfl, rfl⟩ rfl rfl (fun _ => ⟨rfl, rfl⟩), fun q hq => (hM.W hq).cong (fun k a b _ _ _ => by rw [hk k (by omega)]) (fun j _ => by rw [hk 284 (by omega)]) (fun j _ => by rw [hk 287 (by omega)]) (fun j _ => by rw [hk 289 (by omega)]) rfl (by rw [sQ_o (by omega)]), ⟨?_, ?_, ⟨?_, ?_⟩⟩, ?_, ?_⟩
  · exact hM.fai.cong (hj _ (by omega)) (hk _ (by omega)) (by simp [sQ])
  · exact hM.dat.cong (hj _ (by omega)) (hk _ (by omega)) (by simp [sQ])
  · rw [sQ_at, uI_at, List.length_append]
    rfl
  · rw [sQ_at]
    intro q hq
    rw [List.length_append] at hq
    simp only [uI_2]
    by_cases e : q = (s.2.2.1 40 2).length
    · subst e
      rw [uA_at, getD_app (by omega), if_pos rfl]
    · have hq' : q < (s.2.2.1 40 2).length := by simp at hq; omega
      rw [uA_ne _ _ _ _ (by omega), getD_app (by omega), if_neg e]
      exact hM.inp.2 q hq'
  · exact hM.made.cong (hj _ (by omega)) (hk _ (by omega)) (sQ_o (by omega))
  · exact hM.kept.cong (hj _ (by omega)) (hk _ (by omega)) (sQ_o (by omega))
theorem op_read {N h : Nat} (hN : 10000 ≤ N) {σ : SG} {s : AS} (hS : St σ s) (x : Int32) : Out h σ s exR (DX9_read N h x (HH h σ)) (fun σ' => DX10_read N (h + 275) x (HH h σ')) := by
  have hS' := hS
  obtain ⟨hC, hM0, hI⟩ := hS
  have hn := hI.n40
  have hl := hC.inlen
  have hin : ∀ f, DX10_isIn N x.toInt64 (-1) 255 f = some (if (-1 : Int32) ≤ x ∧ x ≤ (255 : Int32) then 1 else 0) := fun f => ii_eq x (-1) 255
  by_cases c1 : x < (-1 : Int32)
  · refine Out.thr hS' 1 (by omega) 0 ?_ (fun σ' hM => ?_)
    · simp only [DX9_read, o_ck, o_0, o_1, o_2, o_3, o_4, o_5, o_6, t_ck, t_0, v_ck, v_0, q_ck, q_0, q_1, q_2, q_3, q_4, wr_ck, wr_0, wr_1, wr_2, rd_ck, rd_0, rd_1, Option.bind_some, bRT, bRW, bWW, bW, le0, ne10, if_true, if_false, not_true_eq_false, not_false_eq_true, uI_at, uA_1, uB_1, uG_1, uI_2, if_pos c1]
      rfl
    · simp only [DX10_read, DX10_read_38, r_ck, r_0, r_1, r_2, r_3, r_4, r_5, r_6, r_7, r_8, r_9, r_10, r_11, r_12, r_13, r_14, r_15, r_16, r_17, r_18, r_19, r_20, r_21, r_22, r_23, r_24, r_25, r_26, r_27, r_28, r_29, r_30, r_31, r_32, r_33, r_34, r_35, r_36, r_37, rp_0, rp_1, rp_26, rp_28, rp_30, rp_33, rp_35, rp_37, Option.bind_some, bRT, bRW, bWW, bW, le0, ne10, if_true, if_false, not_true_eq_false, not_false_eq_true, uI_at, uA_1, uB_1, uG_1, uI_2, hin, ite01]
      rw [if_pos (fun q => absurd q.1 (Int32.not_le.mpr c1)), if_neg (by decide)]
      rfl
  · have c1' : (-1 : Int32) ≤ x := Int32.not_lt.mp c1
    by_cases c2 : x ≤ (255 : Int32)
    · have hcls : DX9_read N h x (HH h σ) = if x = (-1 : Int32) then (bWW (DX4_readAll N (h + 258) (HH h σ)) fun x12 f14 => some (.inl x12, f14)) else (bW (DX5_add N (h + 259) x (HH h σ)) fun x3 f5 => if x3 = 0 then some (.inr "java/lang/UnsupportedOperationException", f5) else (gR f5 h 8 4).bind fun x6 => (gR f5 x6 3 1).bind fun x7 => (DX5_count N x7 f5).bind fun x8 => some (.inl x8, f5)) := by
        simp only [DX9_read, o_ck, o_0, o_1, o_2, o_3, o_4, o_5, o_6, t_ck, t_0, v_ck, v_0, q_ck, q_0, q_1, q_2, q_3, q_4, wr_ck, wr_0, wr_1, wr_2, rd_ck, rd_0, rd_1, Option.bind_some, bRT, bRW, bWW, bW, le0, ne10, if_true, if_false, not_true_eq_false, not_false_eq_true, uI_at, uA_1, uB_1, uG_1, uI_2, if_neg c1, if_pos c2]
      have href : ∀ σ', DX10_read N (h + 275) x (HH h σ') = if x < 0 then DX10_read_37 N (h + 275) x (h + 275) (HH h σ') else (if σ'.1 275 37 = (3000 : Int32) then DX10_read_38 N (h + 275) x (h + 275) 2 (HH h σ') else DX10_read_37 N (h + 275) x (h + 275) (HH h σ')) := fun σ' => by
        simp only [DX10_read, r_ck, r_0, r_1, r_2, r_3, r_4, r_5, r_6, r_7, r_8, r_9, r_10, r_11, r_12, r_13, r_14, r_15, r_16, r_17, r_18, r_19, r_20, r_21, r_22, r_23, r_24, r_25, r_26, r_27, r_28, r_29, r_30, r_31, r_32, r_33, r_34, r_35, r_36, r_37, rp_0, rp_1, rp_26, rp_28, rp_30, rp_33, rp_35, rp_37, Option.bind_some, bRT, bRW, bWW, bW, le0, ne10, if_true, if_false, not_true_eq_false, not_false_eq_true, uI_at, uA_1, uB_1, uG_1, uI_2, hin, ite01]
        rw [if_neg (fun q => q ⟨c1', c2⟩)]
      by_cases c3 : x = -1
      · subst c3
        obtain ⟨y, y1, y2, y3⟩ := both_check (N := N) (h := h) hN hC hI N 0 0 (by omega) (by omega) (by omega)
        rw [nI_0] at y1 y3
        have hclsR : ∀ f5, DX4_takeAll N (h + 258) y (HH h σ) = some (.inl (), HH h f5) → DX9_read N h (-1) (HH h σ) = some (.inl y, HH h (uI f5 259 1 0)) := fun f5 e => by
          rw [hcls, if_pos rfl]
          simp only [DX4_readAll, DX4_checkAll, o_ck, o_0, o_1, o_2, o_3, o_4, o_5, o_6, t_ck, t_0, v_ck, v_0, q_ck, q_0, q_1, q_2, q_3, q_4, wr_ck, wr_0, wr_1, wr_2, rd_ck, rd_0, rd_1, Option.bind_some, bRT, bRW, bWW, bW, le0, ne10, if_true, if_false, not_true_eq_false, not_false_eq_true, uI_at, uA_1, uB_1, uG_1, uI_2, y1, e, e_clear (r := 259) (show kd 259 = 4 from rfl)]
        have hrefR : ∀ σ', RM σ' s → ∃ τ, RM τ s ∧ fm σ' τ ∧ τ.1 275 0 = 0 ∧ DX10_read N (h + 275) (-1) (HH h σ') = if y ≤ 0 then some (y, HH h (uI τ 275 37 0)) else (bW (DX10_goOver N (h + 275) 1 (HH h τ)) fun x5 f7 => DX10_readAll_16 N (h + 275) x5 f7) := fun σ' hM => by
          obtain ⟨τ, t1, t2, t3, t4⟩ := y3 (uI σ' 275 0 0) N (hM.thr 0) (by omega)
          refine ⟨τ, t2, fm.I.tr t3, by rw [t4, uI_at], ?_⟩
          rw [href, if_pos (by decide)]
          simp only [DX10_read_37, DX10_read_38, DX10_readAll, DX10_readAll_16, DX10_goOver, r_ck, r_0, r_1, r_2, r_3, r_4, r_5, r_6, r_7, r_8, r_9, r_10, r_11, r_12, r_13, r_14, r_15, r_16, r_17, r_18, r_19, r_20, r_21, r_22, r_23, r_24, r_25, r_26, r_27, r_28, r_29, r_30, r_31, r_32, r_33, r_34, r_35, r_36, r_37, rp_0, rp_1, rp_26, rp_28, rp_30, rp_33, rp_35, rp_37, Option.bind_some, bRT, bRW, bWW, bW, le0, ne10, if_true, if_false, not_true_eq_false, not_false_eq_true, uI_at, uA_1, uB_1, uG_1, uI_2, t1]
          by_cases q : y ≤ 0
          · rw [if_pos q]
          · rw [if_neg q]
            cases DX10_goOver_7 N N (h + 275) 1 0 0 1 (HH h τ) with
            | none => rfl
            | some r =>
              obtain ⟨r1, r2⟩ := r
              simp only []
              cases pV r2 (h + 275) 9 37 (.int 0) with
              | none => rfl
              | some f4 => rfl
        by_cases q : y ≤ 0
        · have etk : DX4_takeAll N (h + 258) y (HH h σ) = some (.inl (), HH h σ) := by
            obtain ⟨u, rfl⟩ : ∃ u, N = u + 1 := ⟨N - 1, by omega⟩
            simp only [DX4_takeAll, o_ck, o_0, o_1, o_2, o_3, o_4, o_5, o_6, t_ck, t_0, v_ck, v_0, q_ck, q_0, q_1, q_2, q_3, q_4, wr_ck, wr_0, wr_1, wr_2, rd_ck, rd_0, rd_1, Option.bind_some, bRT, bRW, bWW, bW, le0, ne10, if_true, if_false, not_true_eq_false, not_false_eq_true, uI_at, uA_1, uB_1, uG_1, uI_2]
            rw [DX4_takeAll_4, if_pos q]
          refine ⟨sQ s 40 2 [], uI σ 259 1 0, .inl y, hclsR σ etk, hC.row (Or.inr (Or.inr ⟨rfl, rfl⟩)) (sbut.uI (by simp)) (rclear_ok hC.inp.1) (rclear_list _ _), hI.q40 2 [], fc.I (by omega), fun σ' hM => ?_⟩
          obtain ⟨τ, t1, t2, t3, t4⟩ := hrefR σ' hM
          refine ⟨y, uI τ 275 37 0, ?_, t1.iclear, t2.tr fm.I, Or.inl ⟨rfl, by rw [uI_ne _ _ _ _ (by omega)]; exact t3⟩⟩
          show DX10_read N (h + 275) (-1) (HH h σ') = _
          rw [t4, if_pos q]
        · obtain ⟨k, k1, k2, k3⟩ := y2.resolve_right (fun z => q (Int32.le_of_lt z))
          rw [Nat.zero_add] at k1 k2
          obtain ⟨s1, σ1, u1, u2, u3, u4, u5⟩ := both_take (N := N) (h := h) hN k 0 0 N σ s hC hI k3 (by omega) (by omega) (by omega)
          rw [Nat.zero_add, nI_0] at u1 u5
          have etk : DX4_takeAll N (h + 258) y (HH h σ) = some (.inl (), HH h σ1) := by
            simp only [DX4_takeAll, o_ck, o_0, o_1, o_2, o_3, o_4, o_5, o_6, t_ck, t_0, v_ck, v_0, q_ck, q_0, q_1, q_2, q_3, q_4, wr_ck, wr_0, wr_1, wr_2, rd_ck, rd_0, rd_1, Option.bind_some, bRT, bRW, bWW, bW, le0, ne10, if_true, if_false, not_true_eq_false, not_false_eq_true, uI_at, uA_1, uB_1, uG_1, uI_2]
            rw [k1]
            exact u1
          refine ⟨sQ s1 40 2 [], uI σ1 259 1 0, .inl y, hclsR σ1 etk, u2.row (Or.inr (Or.inr ⟨rfl, rfl⟩)) (sbut.uI (by simp)) (rclear_ok u2.inp.1) (rclear_list _ _), u3.q40 2 [], u4.tr (fc.I (by omega)), fun σ' hM => ?_⟩
          obtain ⟨τ, t1, t2, t3, t4⟩ := hrefR σ' hM
          obtain ⟨υ, w1, w2, w3, w4⟩ := u5 τ N t1 (by omega)
          refine ⟨y, uI υ 275 37 0, ?_, w2.iclear, (t2.tr w3).tr fm.I, Or.inl ⟨rfl, by rw [uI_ne _ _ _ _ (by omega), w4]; exact t3⟩⟩
          show DX10_read N (h + 275) (-1) (HH h σ') = _
          rw [t4, if_neg q]
          simp only [DX10_goOver, DX10_readAll_16, r_ck, r_0, r_1, r_2, r_3, r_4, r_5, r_6, r_7, r_8, r_9, r_10, r_11, r_12, r_13, r_14, r_15, r_16, r_17, r_18, r_19, r_20, r_21, r_22, r_23, r_24, r_25, r_26, r_27, r_28, r_29, r_30, r_31, r_32, r_33, r_34, r_35, r_36, r_37, rp_0, rp_1, rp_26, rp_28, rp_30, rp_33, rp_35, rp_37, Option.bind_some, bRT, bRW, bWW, bW, le0, ne10, if_true, if_false, not_true_eq_false, not_false_eq_true, uI_at, uA_1, uB_1, uG_1, uI_2, w1]
          rw [k1]
      · have c4 : ¬ x < 0 := fun z => c3 (by
          rw [Int32.lt_iff_toInt_lt, i0T] at z
          rw [Int32.le_iff_toInt_le, im1T] at c1'
          apply Int32.toInt_inj.mp
          rw [im1T]
          omega)
        rw [Int32.not_lt] at c4
        have c4' : ¬ x < 0 := Int32.not_lt.mpr c4
        have hadd := e_add (N := N) (h := h) hC.inp.1 x
        have hrc := hC.inp.rc
        by_cases cf : (s.2.2.1 40 2).length < 3000
        · have hlt : rc σ 259 < ln (259 + 1) := by rw [hrc]; exact cf
          have hC2 : RC (rpush σ 259 x) (sQ s 40 2 (s.2.2.1 40 2 ++ [x])) := hC.row (Or.inr (Or.inr ⟨rfl, rfl⟩)) (rpush_but _ _ _) (rpush_ok _ hC.inp.1) (by rw [rpush_list hlt, hC.inp.2])
          have hcn := e_cntL (N := N) (h := h) hC2.inp
          rw [sQ_at, List.length_append] at hcn
          refine ⟨sQ s 40 2 (s.2.2.1 40 2 ++ [x]), rpush σ 259 x, .inl (nI ((s.2.2.1 40 2).length + 1)), ?_, hC2, hI.q40 2 _, fc.but (rpush_but _ _ _) (by simp), fun σ' hM => ⟨nI ((s.2.2.1 40 2).length + 1), uI (uA (uI σ' 275 0 0) 305 (s.2.2.1 40 2).length x) 275 37 (nI ((s.2.2.1 40 2).length + 1)), ?_, (hM.thr 0).ipush x, (fm.I.tr (fm.A (by omega))).tr fm.I, Or.inl ⟨rfl, ?_⟩⟩⟩
          · rw [hcls, if_neg c3, hadd, if_pos hlt]
            simp only [o_ck, o_0, o_1, o_2, o_3, o_4, o_5, o_6, t_ck, t_0, v_ck, v_0, q_ck, q_0, q_1, q_2, q_3, q_4, wr_ck, wr_0, wr_1, wr_2, rd_ck, rd_0, rd_1, Option.bind_some, bRT, bRW, bWW, bW, le0, ne10, if_true, if_false, not_true_eq_false, not_false_eq_true, uI_at, uA_1, uB_1, uG_1, uI_2, hcn]
            rfl
          · show DX10_read N (h + 275) x (HH h σ') = _
            have h37 := (hM.thr 0).inp.1
            have h37' : σ'.1 275 37 = nI (s.2.2.1 40 2).length := hM.inp.1
            rw [href, if_neg c4', h37', if_neg (show ¬ nI (s.2.2.1 40 2).length = (3000 : Int32) from fun q => by have := (nI_eq (b := 3000) (by omega) (by omega)).mp q; omega)]
            simp only [DX10_read_37, DX10_read_38, r_ck, r_0, r_1, r_2, r_3, r_4, r_5, r_6, r_7, r_8, r_9, r_10, r_11, r_12, r_13, r_14, r_15, r_16, r_17, r_18, r_19, r_20, r_21, r_22, r_23, r_24, r_25, r_26, r_27, r_28, r_29, r_30, r_31, r_32, r_33, r_34, r_35, r_36, r_37, rp_0, rp_1, rp_26, rp_28, rp_30, rp_33, rp_35, rp_37, Option.bind_some, bRT, bRW, bWW, bW, le0, ne10, if_true, if_false, not_true_eq_false, not_false_eq_true, uI_at, uA_1, uB_1, uG_1, uI_2, if_neg c3, h37, sN0 (k := 305) rfl (show (s.2.2.1 40 2).length < ln 305 from cf), nI_1]
          · rw [uI_ne _ _ _ _ (by omega), uA_1, uI_at]
        · have hfull : (s.2.2.1 40 2).length = 3000 := by omega
          have hlt : ¬ rc σ 259 < ln (259 + 1) := by rw [hrc]; exact cf
          have hpu : rpush σ 259 x = σ := by unfold rpush; rw [if_neg hlt]
          refine Out.thr hS' 2 (by omega) 0 ?_ (fun σ' hM => ?_)
          · rw [hcls, if_neg c3, hadd, if_neg hlt, hpu]
            simp only [Option.bind_some, bRT, bRW, bWW, bW, le0, ne10, if_true, if_false, not_true_eq_false, not_false_eq_true, uI_at, uA_1, uB_1, uG_1, uI_2]
            rfl
          · have h37' : σ'.1 275 37 = nI (s.2.2.1 40 2).length := hM.inp.1
            rw [href, if_neg c4', h37', if_pos (by rw [hfull]; rfl)]
            simp only [DX10_read_38, r_ck, r_0, r_1, r_2, r_3, r_4, r_5, r_6, r_7, r_8, r_9, r_10, r_11, r_12, r_13, r_14, r_15, r_16, r_17, r_18, r_19, r_20, r_21, r_22, r_23, r_24, r_25, r_26, r_27, r_28, r_29, r_30, r_31, r_32, r_33, r_34, r_35, r_36, r_37, rp_0, rp_1, rp_26, rp_28, rp_30, rp_33, rp_35, rp_37, Option.bind_some, bRT, bRW, bWW, bW, le0, ne10, if_true, if_false, not_true_eq_false, not_false_eq_true, uI_at, uA_1, uB_1, uG_1, uI_2]
            rfl
    · refine Out.thr hS' 1 (by omega) 0 ?_ (fun σ' hM => ?_)
      · simp only [DX9_read, o_ck, o_0, o_1, o_2, o_3, o_4, o_5, o_6, t_ck, t_0, v_ck, v_0, q_ck, q_0, q_1, q_2, q_3, q_4, wr_ck, wr_0, wr_1, wr_2, rd_ck, rd_0, rd_1, Option.bind_some, bRT, bRW, bWW, bW, le0, ne10, if_true, if_false, not_true_eq_false, not_false_eq_true, uI_at, uA_1, uB_1, uG_1, uI_2, if_neg c1, if_neg c2]
        rfl
      · simp only [DX10_read, DX10_read_38, r_ck, r_0, r_1, r_2, r_3, r_4, r_5, r_6, r_7, r_8, r_9, r_10, r_11, r_12, r_13, r_14, r_15, r_16, r_17, r_18, r_19, r_20, r_21, r_22, r_23, r_24, r_25, r_26, r_27, r_28, r_29, r_30, r_31, r_32, r_33, r_34, r_35, r_36, r_37, rp_0, rp_1, rp_26, rp_28, rp_30, rp_33, rp_35, rp_37, Option.bind_some, bRT, bRW, bWW, bW, le0, ne10, if_true, if_false, not_true_eq_false, not_false_eq_true, uI_at, uA_1, uB_1, uG_1, uI_2, hin, ite01]
        rw [if_pos (fun q => c2 q.2), if_neg (by decide)]
        rfl
