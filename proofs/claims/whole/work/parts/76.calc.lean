/-! WHICH FORMULA IS NEXT -/
def rdy (s : AS) (wk : Nat → Bool) (i : Nat) : Prop := isF s i ∧ wk i = false ∧ ∀ o, o < s.2.2.2 → ndC s i o → isF s o → wk o = true
def flg (σ : SG) (s : AS) (wk : Nat → Bool) : Prop := ∀ o, o < s.2.2.2 → σ.2.2.1 298 o = if wk o = true then 1 else 0
def msk (s : AS) (wk : Nat → Bool) (x : Int64) : Prop := ∀ o, o < 64 → (tbt x o = true ↔ o < s.2.2.2 ∧ isF s o ∧ wk o = false)
def nds (σ : SG) (s : AS) : Prop := ∀ i, i < s.2.2.2 → ∀ o, o < 64 → (tbt (σ.2.2.2 247 i) o = true ↔ ndC s i o)
def mts (σ : SG) (s : AS) : Prop := ∀ r, r < s.2.2.2 → ∀ c, c < s.2.2.2 → mat σ r c (ndF s r c)
theorem e_lr2 {N h : Nat} {σ : SG} {s : AS} (hn : s.2.2.2 ≤ 40) {wk : Nat → Bool} {x : Int64} (hx : msk s wk x) (hd : nds σ s) : ∀ (w j : Nat), 40 - j < w → j ≤ 40 → (∀ j', j' < j → j' < s.2.2.2 → ¬ rdy s wk j') → ∃ r, DX1_leastReady_2 N (HH h σ) w (h + 246) x (nI j) = some r ∧ Lst (rdy s wk) s.2.2.2 r := by
  intro w
  induction w with
  | zero => intro j hw; omega
  | succ w ih =>
    intro j hw hj hp
    rw [DX1_leastReady_2]
    by_cases z : 40 ≤ j
    · exact ⟨-1, by rw [if_pos (show (40 : Int32) ≤ nI j from nI_le (a := 40) z (by omega))], Or.inl ⟨rfl, fun i hi => hp i (by omega) hi⟩⟩
    · have hj4 : j < 40 := by omega
      rw [if_neg (show ¬ (40 : Int32) ≤ nI j from nI_ge (b := 40) hj4 (by omega))]
      simp only [e_inb hj4, o_ck, o_0, o_1, o_2, o_3, o_4, o_5, o_6, t_ck, t_0, v_ck, v_0, q_ck, q_0, q_1, q_2, q_3, q_4, wr_ck, wr_0, wr_1, wr_2, rd_ck, rd_0, rd_1, Option.bind_some, bRT, bRW, bWW, bW, le0, ne10, if_true, if_false, not_true_eq_false, not_false_eq_true, uI_at, uA_1, uB_1, uG_1, uI_2, ite01, aN1 (k := 247) rfl (show j < ln 247 from hj4), DX1_leastReady_31, nI_1]
      have next : ¬ (j < s.2.2.2 ∧ rdy s wk j) → ∃ r, DX1_leastReady_2 N (HH h σ) w (h + 246) x (nI (j + 1)) = some r ∧ Lst (rdy s wk) s.2.2.2 r := fun hno => ih (j + 1) (by omega) (by omega) (fun j' h1 h2 => by
        by_cases e : j' = j
        · subst e
          exact fun q => hno ⟨h2, q⟩
        · exact hp j' (by omega) h2)
      by_cases c : tbt x j = true
      · obtain ⟨c1, c2, c3⟩ := (hx j (by omega)).mp c
        rw [if_neg (fun q => q c)]
        by_cases y : σ.2.2.2 247 j &&& x = 0
        · refine ⟨nI j, by rw [if_pos y], Or.inr ⟨j, c1, ⟨c2, c3, fun o ho h1 h2 => ?_⟩, fun j' hj' => hp j' hj' (by omega), rfl⟩⟩
          have := (tbt_zero.mp y) o (by omega)
          rw [tbt_and, (hd j c1 o (by omega)).mpr h1, Bool.true_and] at this
          by_cases k : wk o = true
          · exact k
          · have k' : wk o = false := by simpa using k
            rw [(hx o (by omega)).mpr ⟨ho, h2, k'⟩] at this
            exact absurd this (by decide)
        · rw [if_neg y]
          refine next (fun q => y (tbt_zero.mpr (fun o ho => ?_)))
          rw [tbt_and]
          by_cases a : tbt (σ.2.2.2 247 j) o = true
          · by_cases b : tbt x o = true
            · obtain ⟨b1, b2, b3⟩ := (hx o ho).mp b
              rw [q.2.2.2 o b1 ((hd j c1 o ho).mp a) b2] at b3
              exact absurd b3 (by decide)
            · simp [b]
          · simp [a]
      · rw [if_pos c]
        exact next (fun q => c ((hx j (by omega)).mpr ⟨q.1, q.2.1, q.2.2.1⟩))
theorem e_least {N h : Nat} (hN : 10000 ≤ N) {σ : SG} {s : AS} (hn : s.2.2.2 ≤ 40) {wk : Nat → Bool} {x : Int64} (hx : msk s wk x) (hd : nds σ s) : ∃ r, DX1_leastReady N (h + 246) x (HH h σ) = some r ∧ Lst (rdy s wk) s.2.2.2 r := by
  obtain ⟨r, r1, r2⟩ := e_lr2 (N := N) (h := h) hn hx hd N 0 (by omega) (by omega) (fun j' h => by omega)
  refine ⟨r, ?_, r2⟩
  rw [nI_0] at r1
  simp only [DX1_leastReady, o_ck, o_0, o_1, o_2, o_3, o_4, o_5, o_6, t_ck, t_0, v_ck, v_0, q_ck, q_0, q_1, q_2, q_3, q_4, wr_ck, wr_0, wr_1, wr_2, rd_ck, rd_0, rd_1, Option.bind_some, bRT, bRW, bWW, bW, le0, ne10, if_true, if_false, not_true_eq_false, not_false_eq_true, uI_at, uA_1, uB_1, uG_1, uI_2, r1]
theorem f_rd25 {N h : Nat} {σ : SG} {s : AS} (hM : RM σ s) (hI : Inv s) {wk : Nat → Bool} (hf : flg σ s wk) (hm : mts σ s) {i : Nat} (hi : i < s.2.2.2) : ∀ (w o : Nat) (b : Int32), s.2.2.2 - o < w → o ≤ s.2.2.2 → (b = 0 ∨ b = 1) → ∃ b', DX10_isReady_25 N (HH h σ) w (h + 275) (nI i) b (nI o) = some b' ∧ (b' = 0 ∨ b' = 1) ∧ (b' = 1 ↔ b = 1 ∧ ∀ c, o ≤ c → c < s.2.2.2 → ndF s i c → wk c = true) := by
  have hn := hI.n40
  intro w
  induction w with
  | zero => intro o b hw; omega
  | succ w ih =>
    intro o b hw ho hb
    simp only [DX10_isReady_25, DX10_isReady_64, DX10_isReady_60, DX10_isReady_65, r_ck, r_0, r_1, r_2, r_3, r_4, r_5, r_6, r_7, r_8, r_9, r_10, r_11, r_12, r_13, r_14, r_15, r_16, r_17, r_18, r_19, r_20, r_21, r_22, r_23, r_24, r_25, r_26, r_27, r_28, r_29, r_30, r_31, r_32, r_33, r_34, r_35, r_36, r_37, rp_0, rp_1, rp_26, rp_28, rp_30, rp_33, rp_35, rp_37, Option.bind_some, bRT, bRW, bWW, bW, le0, ne10, if_true, if_false, not_true_eq_false, not_false_eq_true, uI_at, uA_1, uB_1, uG_1, uI_2, hM.nn, n40m, nI_1]
    by_cases z : s.2.2.2 ≤ o
    · exact ⟨b, by rw [if_pos (nI_le z (by omega)), if_pos hb], hb, ⟨fun e => ⟨e, fun c h1 h2 => by omega⟩, fun e => e.1⟩⟩
    · have hlt : o < s.2.2.2 := by omega
      rw [if_neg (nI_ge hlt (by omega))]
      simp only [aN2 (k := 297) rfl (show 40 * i + o < ln 297 from show _ < 1600 by omega), aN2 (k := 298) rfl (show o < ln 298 from show _ < 40 by omega), Option.bind_some, bRT, bRW, bWW, bW, le0, ne10, if_true, if_false, not_true_eq_false, not_false_eq_true, uI_at, uA_1, uB_1, uG_1, uI_2]
      have fin : ∀ g : Int32, (g = 0 ∨ g = 1) → (g = 1 ↔ b = 1 ∧ (ndF s i o → wk o = true)) → ∃ b', DX10_isReady_25 N (HH h σ) w (h + 275) (nI i) g (nI (o + 1)) = some b' ∧ (b' = 0 ∨ b' = 1) ∧ (b' = 1 ↔ b = 1 ∧ ∀ c, o ≤ c → c < s.2.2.2 → ndF s i c → wk c = true) := fun g hg hg2 => by
        obtain ⟨b', t1, t2, t3⟩ := ih (o + 1) g (by omega) (by omega) hg
        refine ⟨b', t1, t2, t3.trans ?_⟩
        rw [hg2]
        constructor
        · rintro ⟨⟨x, y⟩, u⟩
          refine ⟨x, fun c h1 h2 => ?_⟩
          by_cases e : c = o
          · rw [e]; exact y
          · exact u c (by omega) h2
        · rintro ⟨x, u⟩
          exact ⟨⟨x, u o (by omega) hlt⟩, fun c h1 h2 => u c (by omega) h2⟩
      rcases hb with e | e
      · rw [if_pos e]
        exact fin 0 (Or.inl rfl) ⟨fun q => absurd q (by decide), fun q => by rw [e] at q; exact absurd q.1 (by decide)⟩
      · rw [if_neg (by rw [e]; decide)]
        obtain ⟨m1, m2⟩ := hm i hi o hlt
        rcases m1 with y | y
        · rw [if_pos y]
          exact fin 1 (Or.inr rfl) ⟨fun _ => ⟨e, fun q => by rw [m2.mpr q] at y; exact absurd y (by decide)⟩, fun _ => rfl⟩
        · rw [if_neg (by rw [y]; decide), hf o hlt]
          by_cases k : wk o = true
          · rw [if_pos k, if_neg (by decide)]
            exact fin 1 (Or.inr rfl) ⟨fun _ => ⟨e, fun _ => k⟩, fun _ => rfl⟩
          · rw [if_neg k, if_pos rfl]
            exact fin 0 (Or.inl rfl) ⟨fun q => absurd q (by decide), fun q => absurd (q.2 (m2.mp y)) k⟩
theorem f_ready {N h : Nat} (hN : 10000 ≤ N) {σ : SG} {s : AS} (hM : RM σ s) (hI : Inv s) {wk : Nat → Bool} (hf : flg σ s wk) (hm : mts σ s) {i : Nat} (hi : i < s.2.2.2) : ∃ b, DX10_isReady N (h + 275) (nI i) (HH h σ) = some b ∧ (b = 0 ∨ b = 1) ∧ (b = 1 ↔ rdy s wk i) := by
  have hn := hI.n40
  have go := fun (b : Int32) (hb : b = 0 ∨ b = 1) => f_rd25 (N := N) (h := h) hM hI hf hm hi N 0 b (by omega) (by omega) hb
  rw [nI_0] at go
  simp only [DX10_isReady, DX10_isReady_21, DX10_isReady_22, r_ck, r_0, r_1, r_2, r_3, r_4, r_5, r_6, r_7, r_8, r_9, r_10, r_11, r_12, r_13, r_14, r_15, r_16, r_17, r_18, r_19, r_20, r_21, r_22, r_23, r_24, r_25, r_26, r_27, r_28, r_29, r_30, r_31, r_32, r_33, r_34, r_35, r_36, r_37, rp_0, rp_1, rp_26, rp_28, rp_30, rp_33, rp_35, rp_37, Option.bind_some, bRT, bRW, bWW, bW, le0, ne10, if_true, if_false, not_true_eq_false, not_false_eq_true, uI_at, uA_1, uB_1, uG_1, uI_2, f_isF hM hI hi, aN2 (k := 298) rfl (show i < ln 298 from show _ < 40 by omega)]
  by_cases c : s.1 i 13 = -1
  · obtain ⟨b, b1, b2, b3⟩ := go 0 (Or.inl rfl)
    refine ⟨b, by rw [if_pos c, if_pos rfl]; exact b1, b2, b3.trans ⟨fun q => absurd q.1 (by decide), fun q => absurd c q.1⟩⟩
  · rw [if_neg c, if_neg (by decide), hf i hi]
    by_cases k : wk i = true
    · obtain ⟨b, b1, b2, b3⟩ := go 0 (Or.inl rfl)
      refine ⟨b, by rw [if_pos k, if_neg (by decide)]; exact b1, b2, b3.trans ⟨fun q => absurd q.1 (by decide), fun q => by have q2 := q.2.1; rw [k] at q2; exact absurd q2 (by decide)⟩⟩
    · obtain ⟨b, b1, b2, b3⟩ := go 1 (Or.inr rfl)
      refine ⟨b, by rw [if_neg k, if_pos rfl]; exact b1, b2, b3.trans ⟨fun q => ⟨c, by simpa using k, fun o ho h1 h2 => q.2 o (by omega) ho ⟨c, h2, h1⟩⟩, fun q => ⟨rfl, fun o _ ho hd => q.2.2 o ho hd.2.2 hd.2.1⟩⟩⟩
theorem f_scan0 {N h : Nat} (hN : 10000 ≤ N) {σ : SG} {s : AS} (hM : RM σ s) (hI : Inv s) {wk : Nat → Bool} (hf : flg σ s wk) (hm : mts σ s) (hr : ∀ i, i < s.2.2.2 → ¬ rdy s wk i) (v : Int32) : ∀ (w j : Nat), s.2.2.2 - j < w → j ≤ s.2.2.2 → DX10_calculate_58 N w (h + 275) v (nI j) (HH h σ) = some (v, HH h σ) := by
  have hn := hI.n40
  intro w
  induction w with
  | zero => intro j hw; omega
  | succ w ih =>
    intro j hw hj
    simp only [DX10_calculate_58, r_ck, r_0, r_1, r_2, r_3, r_4, r_5, r_6, r_7, r_8, r_9, r_10, r_11, r_12, r_13, r_14, r_15, r_16, r_17, r_18, r_19, r_20, r_21, r_22, r_23, r_24, r_25, r_26, r_27, r_28, r_29, r_30, r_31, r_32, r_33, r_34, r_35, r_36, r_37, rp_0, rp_1, rp_26, rp_28, rp_30, rp_33, rp_35, rp_37, Option.bind_some, bRT, bRW, bWW, bW, le0, ne10, if_true, if_false, not_true_eq_false, not_false_eq_true, uI_at, uA_1, uB_1, uG_1, uI_2, hM.nn]
    by_cases z : s.2.2.2 ≤ j
    · rw [if_pos (nI_le z (by omega))]
    · have hlt : j < s.2.2.2 := by omega
      obtain ⟨b, b1, b2, b3⟩ := f_ready (N := N) (h := h) hN hM hI hf hm hlt
      have b0 : b = 0 := b2.resolve_right (fun q => hr j hlt (b3.mp q))
      rw [if_neg (nI_ge hlt (by omega)), b1, b0]
      simp only [Option.bind_some, bRT, bRW, bWW, bW, le0, ne10, if_true, if_false, not_true_eq_false, not_false_eq_true, uI_at, uA_1, uB_1, uG_1, uI_2, nI_1]
      exact ih (j + 1) (by omega) (by omega)
theorem f_scan1 {N h : Nat} (hN : 10000 ≤ N) {σ : SG} {s : AS} (hM : RM σ s) (hI : Inv s) {wk : Nat → Bool} (hf : flg σ s wk) (hm : mts σ s) {i : Nat} (hi : i < s.2.2.2) (hr : rdy s wk i) (hl : ∀ j, j < i → ¬ rdy s wk j) (v : Int32) (w : Nat) : ∀ (d j : Nat), d = i - j → j ≤ i → DX10_calculate_58 N (w + d + 1) (h + 275) v (nI j) (HH h σ) = bW (DX10_work N (h + 275) (nI i) (HH h σ)) fun x16 f18 => if x16 = 0 then DX10_calculate_89 N (DX10_calculate_58 N w) (h + 275) (nI i) v f18 else DX10_calculate_89 N (DX10_calculate_58 N w) (h + 275) (nI i) (v + 1) f18 := by
  have hn := hI.n40
  intro d
  induction d with
  | zero =>
    intro j hd hj
    obtain rfl : j = i := by omega
    obtain ⟨b, b1, b2, b3⟩ := f_ready (N := N) (h := h) hN hM hI hf hm hi
    rw [Nat.add_zero, DX10_calculate_58]
    simp only [r_ck, r_0, r_1, r_2, r_3, r_4, r_5, r_6, r_7, r_8, r_9, r_10, r_11, r_12, r_13, r_14, r_15, r_16, r_17, r_18, r_19, r_20, r_21, r_22, r_23, r_24, r_25, r_26, r_27, r_28, r_29, r_30, r_31, r_32, r_33, r_34, r_35, r_36, r_37, rp_0, rp_1, rp_26, rp_28, rp_30, rp_33, rp_35, rp_37, Option.bind_some, bRT, bRW, bWW, bW, le0, ne10, if_true, if_false, not_true_eq_false, not_false_eq_true, uI_at, uA_1, uB_1, uG_1, uI_2, hM.nn, b1, b3.mpr hr]
    rw [if_neg (nI_ge hi (by omega))]
  | succ d ih =>
    intro j hd hj
    have hlt : j < s.2.2.2 := by omega
    obtain ⟨b, b1, b2, b3⟩ := f_ready (N := N) (h := h) hN hM hI hf hm hlt
    have b0 : b = 0 := b2.resolve_right (fun q => hl j (by omega) (b3.mp q))
    rw [← ih (j + 1) (by omega) (by omega), show w + (d + 1) + 1 = (w + d + 1) + 1 by omega, DX10_calculate_58]
    simp only [r_ck, r_0, r_1, r_2, r_3, r_4, r_5, r_6, r_7, r_8, r_9, r_10, r_11, r_12, r_13, r_14, r_15, r_16, r_17, r_18, r_19, r_20, r_21, r_22, r_23, r_24, r_25, r_26, r_27, r_28, r_29, r_30, r_31, r_32, r_33, r_34, r_35, r_36, r_37, rp_0, rp_1, rp_26, rp_28, rp_30, rp_33, rp_35, rp_37, Option.bind_some, bRT, bRW, bWW, bW, le0, ne10, if_true, if_false, not_true_eq_false, not_false_eq_true, uI_at, uA_1, uB_1, uG_1, uI_2, hM.nn, b1, b0, nI_1]
    rw [if_neg (nI_ge hlt (by omega))]
/-! how many are worked out -/
def cw (wk : Nat → Bool) : Nat → Nat
  | 0 => 0
  | k + 1 => cw wk k + (if wk k = true then 1 else 0)
theorem cw_le (wk : Nat → Bool) : ∀ k, cw wk k ≤ k
  | 0 => Nat.le_refl _
  | k + 1 => by
    have := cw_le wk k
    simp only [cw]
    split <;> omega
theorem cw_all {wk : Nat → Bool} : ∀ k, cw wk k = k → ∀ i, i < k → wk i = true
  | 0, _, i, h => by omega
  | k + 1, e, i, h => by
    have := cw_le wk k
    simp only [cw] at e
    by_cases c : wk k = true
    · rw [if_pos c] at e
      by_cases q : i = k
      · rw [q]; exact c
      · exact cw_all k (by omega) i (by omega)
    · rw [if_neg c] at e
      omega
def wkU (wk : Nat → Bool) (i : Nat) : Nat → Bool := fun j => decide (j = i) || wk j
theorem cw_u {wk : Nat → Bool} {i : Nat} (h : wk i = false) : ∀ k, cw (wkU wk i) k = cw wk k + (if i < k then 1 else 0)
  | 0 => by simp [cw]
  | k + 1 => by
    simp only [cw]
    rw [cw_u h k]
    by_cases e : k = i
    · subst e
      have : wkU wk k k = true := by simp [wkU]
      rw [if_neg (show ¬ k < k by omega), if_pos this, if_neg (by rw [h]; decide), if_pos (show k < k + 1 by omega)]
    · have : wkU wk i k = wk k := by simp [wkU, e]
      rw [this]
      by_cases q : i < k
      · rw [if_pos q, if_pos (show i < k + 1 by omega)]; omega
      · rw [if_neg q, if_neg (show ¬ i < k + 1 by omega)]
        omega
/-! BOTH LOOPS -/
theorem nds_q {σ τ : SG} {s t : AS} (h : nds σ s) (h1 : t.1 = s.1) (h2 : t.2.2.2 = s.2.2.2) (h3 : τ.2.2.2 247 = σ.2.2.2 247) : nds τ t := fun i hi o ho => by
  rw [h3, ndC_q h1 h2]
  rw [h2] at hi
  exact h i hi o ho
theorem isF_q {s t : AS} (h1 : t.1 = s.1) (i : Nat) : isF t i ↔ isF s i := by
  unfold isF
  rw [h1]
theorem msk_u {s t : AS} {wk : Nat → Bool} {x : Int64} (h : msk s wk x) (h1 : t.1 = s.1) (h2 : t.2.2.2 = s.2.2.2) (i : Nat) : msk t (wkU wk i) (x &&& (lN (2 ^ i) ^^^ (-1 : Int64))) := fun o ho => by
  rw [tbt_and, tbt_not ho, Bool.and_eq_true, h o ho, isF_q h1, h2, decide_eq_true_iff]
  unfold wkU
  constructor
  · rintro ⟨⟨a, b, c⟩, d⟩
    refine ⟨a, b, ?_⟩
    rw [c, Bool.or_false]
    exact decide_eq_false (fun e => d e.symm)
  · rintro ⟨a, b, c⟩
    rw [Bool.or_eq_false_iff] at c
    exact ⟨⟨a, b, c.2⟩, fun e => of_decide_eq_false c.1 e.symm⟩
theorem mts_q {σ τ : SG} {s t : AS} (h : mts σ s) (h1 : t.1 = s.1) (h2 : t.2.2.2 = s.2.2.2) (h3 : τ.2.2.1 297 = σ.2.2.1 297) : mts τ t := fun r hr c hc => by
  rw [h2] at hr hc
  have := h r hr c hc
  unfold mat ndF at this ⊢
  rw [h3, isF_q h1, isF_q h1, ndC_q h1 h2]
  exact this
theorem both_loop {N h : Nat} (hN : 10000 ≤ N) : ∀ (w : Nat) (σ : SG) (s : AS) (wk : Nat → Bool) (x : Int64) (v : Int32) (k : Nat), 40 - k < w → k = cw wk 40 → RC σ s → Inv s → nds σ s → msk s wk x → (s.2.2.1 40 0).length ≤ k → ∃ s1 σ1 r, DX1_workOutAll_32 N w (h + 246) x v (nI k) (HH h σ) = some (.inl r, HH h σ1) ∧ RC σ1 s1 ∧ Inv s1 ∧ fc σ σ1 ∧ ∀ (σ' : SG) (w' : Nat), RM σ' s → flg σ' s wk → mts σ' s → 41 * (41 - k) ≤ w' → ∃ τ, DX10_calculate_58 N w' (h + 275) v 0 (HH h σ') = some (r, HH h τ) ∧ RM τ s1 ∧ fm σ' τ ∧ τ.1 275 0 = σ'.1 275 0 := by
  intro w
  induction w with
  | zero => intro σ s wk x v k hw; omega
  | succ w ih =>
    intro σ s wk x v k hw hk hC hI hd hx hfl
    have hn := hI.n40
    have hk4 := cw_le wk 40
    have stop : DX1_workOutAll_32 N (w + 1) (h + 246) x v (nI k) (HH h σ) = some (.inl v, HH h σ) → (∀ i, i < s.2.2.2 → ¬ rdy s wk i) → ∃ s1 σ1 r, DX1_workOutAll_32 N (w + 1) (h + 246) x v (nI k) (HH h σ) = some (.inl r, HH h σ1) ∧ RC σ1 s1 ∧ Inv s1 ∧ fc σ σ1 ∧ ∀ (σ' : SG) (w' : Nat), RM σ' s → flg σ' s wk → mts σ' s → 41 * (41 - k) ≤ w' → ∃ τ, DX10_calculate_58 N w' (h + 275) v 0 (HH h σ') = some (r, HH h τ) ∧ RM τ s1 ∧ fm σ' τ ∧ τ.1 275 0 = σ'.1 275 0 := fun e hr => by
      refine ⟨s, σ, v, e, hC, hI, fc.rf, fun σ' w' hM hf hm hw' => ⟨σ', ?_, hM, fm.rf, rfl⟩⟩
      have := f_scan0 (N := N) (h := h) hN hM hI hf hm hr v w' 0 (by omega) (by omega)
      rw [nI_0] at this
      exact this
    by_cases c40 : 40 ≤ k
    · refine stop (by rw [DX1_workOutAll_32, if_pos (show (40 : Int32) ≤ nI k from nI_le (a := 40) c40 (by omega))]) (fun i hi q => ?_)
      have := cw_all (wk := wk) 40 (by omega) i (by omega)
      rw [q.2.1] at this
      exact absurd this (by decide)
    · have hk3 : k < 40 := by omega
      have c1 : ¬ (40 : Int32) ≤ nI k := nI_ge (b := 40) hk3 (by omega)
      by_cases cx : x = 0
      · refine stop (by rw [DX1_workOutAll_32, if_neg c1, if_pos cx]) (fun i hi q => ?_)
        have := (hx i (by omega)).mpr ⟨hi, q.1, q.2.1⟩
        rw [cx, tbt_0] at this
        exact absurd this (by decide)
      · obtain ⟨r, r1, r2⟩ := e_least (N := N) (h := h) hN hn hx hd
        rcases r2 with ⟨rfl, r3⟩ | ⟨i, hi, hr, hl, rfl⟩
        · exact stop (by rw [DX1_workOutAll_32, if_neg c1, if_neg cx, r1]; simp only [Option.bind_some, bRT, bRW, bWW, bW, le0, ne10, if_true, if_false, not_true_eq_false, not_false_eq_true, uI_at, uA_1, uB_1, uG_1, uI_2]) r3
        · obtain ⟨y, y1, y2⟩ := e_result (N := N) (h := h) hN hC hI hi hr.1
          obtain ⟨τ, t1, t2, t3, t4⟩ := e_writeR (N := N) (h := h) hN hC hI hi y2 (by omega)
          obtain ⟨a1, a2, a3⟩ : (apW s i).1 = s.1 ∧ (apW s i).2.2.2 = s.2.2.2 ∧ ((apW s i).2.2.1 40 0).length ≤ (s.2.2.1 40 0).length + 1 := (apW_q s i).resolve_right (by omega)
          have hcw := cw_u (wk := wk) (i := i) hr.2.1 40
          rw [if_pos (show i < 40 by omega)] at hcw
          obtain ⟨s1, σ1, rr, u1, u2, u3, u4, u5⟩ := ih τ (apW s i) (wkU wk i) (x &&& (lN (2 ^ i) ^^^ (-1 : Int64))) (v + chg s i) (k + 1) (by omega) (by omega) t2 (inv_apW hI hi y2) (nds_q hd a1 a2 t4) (msk_u hx a1 a2 i) (by omega)
          refine ⟨s1, σ1, rr, ?_, u2, u3, t3.tr u4, fun σ' w' hM hf hm hw' => ?_⟩
          · rw [DX1_workOutAll_32, if_neg c1, if_neg cx, r1]
            simp only [o_ck, o_0, o_1, o_2, o_3, o_4, o_5, o_6, t_ck, t_0, v_ck, v_0, q_ck, q_0, q_1, q_2, q_3, q_4, wr_ck, wr_0, wr_1, wr_2, rd_ck, rd_0, rd_1, Option.bind_some, bRT, bRW, bWW, bW, le0, ne10, if_true, if_false, not_true_eq_false, not_false_eq_true, uI_at, uA_1, uB_1, uG_1, uI_2, nI_nm1 (show i < 2 ^ 31 by omega), e_tg hC hi, y1, t1, e_bit (show i < 40 by omega), nI_1]
            exact u1
          · obtain ⟨υ, v1, v2, v3, v4, v5, v6⟩ := f_work (N := N) (h := h) hN hM hI (fun q hq => hC.len hq) hi hr.1 (by omega)
            have v2' : RM (uA υ 298 i 1) (apW s i) := v2.work (fun _ _ _ => rfl) (fun k' _ _ _ h8 _ _ => by funext c; exact uA_ne _ _ _ _ (by omega)) ⟨rfl, rfl⟩
            obtain ⟨ρ, p1, p2, p3, p4⟩ := u5 (uA υ 298 i 1) (w' - i - 1) v2' (fun o ho => by
              rw [a2] at ho
              by_cases e : o = i
              · subst e
                rw [uA_at]
                simp [wkU]
              · rw [uA_ne _ _ _ _ (by omega), v5, hf o ho]
                simp [wkU, e]) (mts_q hm a1 a2 (by rw [show (uA υ 298 i 1).2.2.1 297 = υ.2.2.1 297 from by funext c; exact uA_ne _ _ _ _ (by omega)]; exact v4)) (by omega)
            refine ⟨ρ, ?_, p2, (v3.tr (fm.A (by omega))).tr p3, by rw [p4]; exact v6⟩
            have sc := f_scan1 (N := N) (h := h) hN hM hI hf hm hi hr hl v (w' - i - 1) i 0 (by omega) (by omega)
            rw [nI_0, show w' - i - 1 + i + 1 = w' by omega] at sc
            rw [sc, v1]
            simp only [DX10_calculate_89, r_ck, r_0, r_1, r_2, r_3, r_4, r_5, r_6, r_7, r_8, r_9, r_10, r_11, r_12, r_13, r_14, r_15, r_16, r_17, r_18, r_19, r_20, r_21, r_22, r_23, r_24, r_25, r_26, r_27, r_28, r_29, r_30, r_31, r_32, r_33, r_34, r_35, r_36, r_37, rp_0, rp_1, rp_26, rp_28, rp_30, rp_33, rp_35, rp_37, Option.bind_some, bRT, bRW, bWW, bW, le0, ne10, if_true, if_false, not_true_eq_false, not_false_eq_true, uI_at, uA_1, uB_1, uG_1, uI_2, sN2 (k := 298) rfl (show i < ln 298 from show _ < 40 by omega)]
            have hc : chg s i = 0 ∨ chg s i = 1 := by
              unfold chg
              cases res s i with
              | none => exact Or.inl rfl
              | some v => by_cases e : wrL v = s.2.2.1 i 0 <;> simp [e]
            rcases hc with e | e
            · rw [if_pos e]
              rw [e, Int32.add_zero] at p1
              exact p1
            · rw [if_neg (by rw [e]; decide)]
              rw [e] at p1
              exact p1
theorem f_calc33 {N h : Nat} {s : AS} (hn : s.2.2.2 ≤ 40) : ∀ (w j : Nat) (σ : SG), s.2.2.2 - j < w → j ≤ s.2.2.2 → RM σ s → (∀ o, o < j → σ.2.2.1 298 o = 0) → ∃ τ, DX10_calculate_33 N w (h + 275) (nI j) (HH h σ) = DX10_calculate_58 N N (h + 275) 0 0 (HH h τ) ∧ RM τ s ∧ fm σ τ ∧ τ.2.2.1 297 = σ.2.2.1 297 ∧ τ.1 275 0 = σ.1 275 0 ∧ ∀ o, o < s.2.2.2 → τ.2.2.1 298 o = 0 := by
  intro w
  induction w with
  | zero => intro j σ hw; omega
  | succ w ih =>
    intro j σ hw hj hM hz
    simp only [DX10_calculate_33, r_ck, r_0, r_1, r_2, r_3, r_4, r_5, r_6, r_7, r_8, r_9, r_10, r_11, r_12, r_13, r_14, r_15, r_16, r_17, r_18, r_19, r_20, r_21, r_22, r_23, r_24, r_25, r_26, r_27, r_28, r_29, r_30, r_31, r_32, r_33, r_34, r_35, r_36, r_37, rp_0, rp_1, rp_26, rp_28, rp_30, rp_33, rp_35, rp_37, Option.bind_some, bRT, bRW, bWW, bW, le0, ne10, if_true, if_false, not_true_eq_false, not_false_eq_true, uI_at, uA_1, uB_1, uG_1, uI_2, hM.nn]
    by_cases z : s.2.2.2 ≤ j
    · exact ⟨σ, by rw [if_pos (nI_le z (by omega))], hM, fm.rf, rfl, rfl, fun o ho => hz o (by omega)⟩
    · have hlt : j < s.2.2.2 := by omega
      have hM2 : RM (uA σ 298 j 0) s := hM.work (fun _ _ _ => rfl) (fun k' _ _ _ h8 _ _ => by funext c; exact uA_ne _ _ _ _ (by omega)) ⟨rfl, rfl⟩
      obtain ⟨τ, t1, t2, t3, t4, t5, t6⟩ := ih (j + 1) (uA σ 298 j 0) (by omega) (by omega) hM2 (fun o ho => by
        by_cases e : o = j
        · subst e
          exact uA_at _ _ _ _
        · rw [uA_ne _ _ _ _ (by omega)]
          exact hz o (by omega))
      refine ⟨τ, ?_, t2, (fm.A (by omega)).tr t3, ?_, t5, t6⟩
      · rw [if_neg (nI_ge hlt (by omega))]
        simp only [sN2 (k := 298) rfl (show j < ln 298 from show _ < 40 by omega), Option.bind_some, bRT, bRW, bWW, bW, le0, ne10, if_true, if_false, not_true_eq_false, not_false_eq_true, uI_at, uA_1, uB_1, uG_1, uI_2, nI_1]
        exact t1
      · rw [t4]
        funext c
        exact uA_ne _ _ _ _ (by omega)
theorem RM.clr {σ : SG} {s : AS} (hM : RM σ s) : RM (uI σ 275 26 0) (sQ s 40 0 []) := by
  have hj : ∀ j, j ≠ 26 → (uI σ 275 26 0).1 275 j = σ.1 275 j := fun j hj => uI_ne _ _ _ _ (by omega)
  refine ⟨by rw [hj 1 (by omega)]; exact hM.nn, fun q hq => (hM.F hq).cong (fun k _ _ _ _ _ _ _ => rfl) ⟨rfl, rfl⟩ rfl rfl (fun _ => ⟨rfl, rfl⟩), fun q hq => (hM.W hq).cong (fun k _ _ _ _ _ => rfl) (fun j _ => rfl) (fun j _ => rfl) (fun j _ => rfl) rfl (sQ_o (by omega)), ⟨⟨?_, ?_⟩, ?_, ?_⟩, ?_, ?_⟩
  · rw [sQ_at, uI_at]
    rfl
  · rw [sQ_at]
    intro q hq
    exact absurd hq (by simp)
  · exact hM.dat.cong (hj _ (by omega)) rfl (by simp [sQ])
  · exact hM.inp.cong (hj _ (by omega)) rfl (by simp [sQ])
  · exact hM.made.cong (hj _ (by omega)) rfl (sQ_o (by omega))
  · exact hM.kept.cong (hj _ (by omega)) rfl (sQ_o (by omega))
theorem op_calculate {N h : Nat} (hN : 10000 ≤ N) {σ : SG} {s : AS} (hS : St σ s) : Out h σ s ex0 (DX9_calculate N h (HH h σ)) (fun σ' => DX10_calculate N (h + 275) (HH h σ')) := by
  obtain ⟨hC, hM0, hI⟩ := hS
  have hn := hI.n40
  obtain ⟨τ, y, t1, t2, t3, t4⟩ := e_gather (N := N) (h := h) hN hC hI
  have hC1 := hC.needs t2
  obtain ⟨υ, r, u1, u2, u3⟩ := e_ring (N := N) (h := h) hN hC1 (M := ndC s) (fun i hi o ho => by rw [(t3 i hi).2]; exact (t3 i hi).1 o ho)
  have hC2 := hC1.needs (u2.wk (by simp))
  have hfc : fc σ υ := (fc.but t2 (by simp)).tr (fc.but u2 (by simp))
  have ref : ∀ σ', RM σ' s → ∃ ρ, RM ρ s ∧ fm σ' ρ ∧ ρ.1 275 0 = 0 ∧ DX10_calculate N (h + 275) (HH h σ') = if r < 0 then (bW (DX10_learn N (h + 275) (HH h ρ)) fun x8 f10 => (pV f10 (h + 275) 9 26 (.int (0 : Int32))).bind fun f11 => DX10_calculate_33 N N (h + 275) (0 : Int32) f11) else some ((-1 : Int32) - r, HH h ρ) := fun σ' hM => by
    obtain ⟨a, a1, a2, a3⟩ := f_learn (N := N) (h := h) hN (hM.thr 0) hI
    have hMa := (hM.thr 0).n297 a2
    obtain ⟨b, r', b1, b2, b3⟩ := f_ring (N := N) (h := h) hN hMa hn a3
    have er : r' = r := b3.un u3 (fun i _ => (Wsh_d _ _).symm)
    subst er
    refine ⟨b, hMa.n297 b2, (fm.I.tr (fm.but a2 (by simp))).tr (fm.but b2 (by simp)), ?_, ?_⟩
    · rw [(b2.ag (k := 275) (by simp)).1, (a2.ag (k := 275) (by simp)).1, uI_at]
    · simp only [DX10_calculate, r_ck, r_0, r_1, r_2, r_3, r_4, r_5, r_6, r_7, r_8, r_9, r_10, r_11, r_12, r_13, r_14, r_15, r_16, r_17, r_18, r_19, r_20, r_21, r_22, r_23, r_24, r_25, r_26, r_27, r_28, r_29, r_30, r_31, r_32, r_33, r_34, r_35, r_36, r_37, rp_0, rp_1, rp_26, rp_28, rp_30, rp_33, rp_35, rp_37, Option.bind_some, bRT, bRW, bWW, bW, le0, ne10, if_true, if_false, not_true_eq_false, not_false_eq_true, uI_at, uA_1, uB_1, uG_1, uI_2, a1, b1]
  by_cases c : r = -1
  · subst c
    have hC3 : RC (uI υ 251 1 0) (sQ s 40 0 []) := hC2.row (Or.inl ⟨rfl, rfl⟩) (sbut.uI (by simp)) (rclear_ok hC2.fai.1) (rclear_list _ _)
    have hI3 := hI.q40 0 []
    have h247 : (uI υ 251 1 0).2.2.2 247 = τ.2.2.2 247 := (u2.ag (k := 247) (by simp)).2.2.2
    obtain ⟨s1, σ1, rr, w1, w2, w3, w4, w5⟩ := both_loop (N := N) (h := h) hN N (uI υ 251 1 0) (sQ s 40 0 []) (fun _ => false) y 0 0 (by omega) (by decide) hC3 hI3 (fun i hi o ho => by rw [h247, ndC_q (s := s) (t := sQ s 40 0 []) rfl rfl]; exact (t3 i hi).1 o ho) (fun o ho => by rw [t4 o ho, isF_q (t := sQ s 40 0 []) (s := s) rfl]; exact ⟨fun q => ⟨q.1, q.2, rfl⟩, fun q => ⟨q.1, q.2.1⟩⟩) (by rw [sQ_at]; simp)
    refine ⟨s1, σ1, .inl rr, ?_, w2, w3, (hfc.tr (fc.I (by omega))).tr w4, fun σ' hM => ?_⟩
    · rw [nI_0] at w1
      simp only [DX9_calculate, DX1_workOutAll, o_ck, o_0, o_1, o_2, o_3, o_4, o_5, o_6, t_ck, t_0, v_ck, v_0, q_ck, q_0, q_1, q_2, q_3, q_4, wr_ck, wr_0, wr_1, wr_2, rd_ck, rd_0, rd_1, Option.bind_some, bRT, bRW, bWW, bW, le0, ne10, if_true, if_false, not_true_eq_false, not_false_eq_true, uI_at, uA_1, uB_1, uG_1, uI_2, t1, u1, e_clear (r := 251) (show kd 251 = 4 from rfl), w1]
    · obtain ⟨ρ, p1, p2, p3, p4⟩ := ref σ' hM
      obtain ⟨a, a1, a2, a3⟩ := f_learn (N := N) (h := h) hN p1 hI
      have hMa := (p1.n297 a2).clr
      obtain ⟨b, b1, b2, b3, b4, b5, b6⟩ := f_calc33 (N := N) (h := h) (s := sQ s 40 0 []) hn N 0 (uI a 275 26 0) (show s.2.2.2 - 0 < N by omega) (by omega) hMa (fun o ho => by omega)
      obtain ⟨e, e1, e2, e3, e4⟩ := w5 b N b2 (fun o ho => by rw [b6 o ho]; rfl) (mts_q (σ := a) (s := s) a3 rfl rfl (by rw [b4]; rfl)) (by omega)
      refine ⟨rr, e, ?_, e2, (((p2.tr (fm.but a2 (by simp))).tr fm.I).tr b3).tr e3, Or.inl ⟨rfl, ?_⟩⟩
      · rw [nI_0] at b1
        show DX10_calculate N (h + 275) (HH h σ') = _
        rw [p4, if_pos (by decide)]
        simp only [r_ck, r_0, r_1, r_2, r_3, r_4, r_5, r_6, r_7, r_8, r_9, r_10, r_11, r_12, r_13, r_14, r_15, r_16, r_17, r_18, r_19, r_20, r_21, r_22, r_23, r_24, r_25, r_26, r_27, r_28, r_29, r_30, r_31, r_32, r_33, r_34, r_35, r_36, r_37, rp_0, rp_1, rp_26, rp_28, rp_30, rp_33, rp_35, rp_37, Option.bind_some, bRT, bRW, bWW, bW, le0, ne10, if_true, if_false, not_true_eq_false, not_false_eq_true, uI_at, uA_1, uB_1, uG_1, uI_2, a1, b1, e1]
      · rw [e4, b5, uI_ne _ _ _ _ (by omega), (a2.ag (k := 275) (by simp)).1]
        exact p3
  · obtain ⟨i, hi, _, _, er⟩ : ∃ i, i < s.2.2.2 ∧ Wsh (ndC s) s.2.2.2 i i ∧ (∀ j, j < i → ¬ Wsh (ndC s) s.2.2.2 j j) ∧ r = nI i := by
      rcases u3 with q | q
      · exact absurd q.1 c
      · exact q
    refine ⟨s, υ, .inl (-1 - r), ?_, hC2, hI, hfc, fun σ' hM => ?_⟩
    · simp only [DX9_calculate, DX1_workOutAll, o_ck, o_0, o_1, o_2, o_3, o_4, o_5, o_6, t_ck, t_0, v_ck, v_0, q_ck, q_0, q_1, q_2, q_3, q_4, wr_ck, wr_0, wr_1, wr_2, rd_ck, rd_0, rd_1, Option.bind_some, bRT, bRW, bWW, bW, le0, ne10, if_true, if_false, not_true_eq_false, not_false_eq_true, uI_at, uA_1, uB_1, uG_1, uI_2, t1, u1, c]
    · obtain ⟨ρ, p1, p2, p3, p4⟩ := ref σ' hM
      refine ⟨-1 - r, ρ, ?_, p1, p2, Or.inl ⟨rfl, p3⟩⟩
      show DX10_calculate N (h + 275) (HH h σ') = _
      rw [p4, if_neg (by rw [er]; exact nI_pos (by omega))]
