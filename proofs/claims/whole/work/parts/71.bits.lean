/-! SETS AS BITS; what a formula needs -/
def tbt (x : Int64) (i : Nat) : Bool := x.toBitVec.getLsbD i
theorem bt_eq : ∀ i, i < 40 → (1 : Int64) <<< ((nI i).toInt64 &&& 63) = lN (2 ^ i) := by decide +kernel
theorem tbt_or (x y : Int64) (i : Nat) : tbt (x ||| y) i = (tbt x i || tbt y i) := by
  unfold tbt
  rw [Int64.toBitVec_or, BitVec.getLsbD_or]
theorem tbt_and (x y : Int64) (i : Nat) : tbt (x &&& y) i = (tbt x i && tbt y i) := by
  unfold tbt
  rw [Int64.toBitVec_and, BitVec.getLsbD_and]
theorem tbt_0 (i : Nat) : tbt 0 i = false := by
  unfold tbt
  show (0#64).getLsbD i = false
  simp
theorem tbt_2 {i j : Nat} (hj : j < 64) : tbt (lN (2 ^ i)) j = decide (i = j) := by
  unfold tbt
  show (BitVec.ofNat 64 (2 ^ i)).getLsbD j = _
  rw [BitVec.getLsbD_ofNat, Nat.testBit_two_pow]
  simp [hj]
theorem tbt_not {i j : Nat} (hj : j < 64) : tbt (lN (2 ^ i) ^^^ (-1 : Int64)) j = decide (¬ i = j) := by
  unfold tbt
  rw [Int64.toBitVec_xor, BitVec.getLsbD_xor]
  have h1 := tbt_2 (i := i) hj
  unfold tbt at h1
  rw [h1]
  have h2 : (-1 : Int64).toBitVec.getLsbD j = true := by
    have e : (-1 : Int64).toBitVec = BitVec.allOnes 64 := by decide +kernel
    rw [e, BitVec.getLsbD_allOnes]
    simp [hj]
  rw [h2]
  by_cases e : i = j <;> simp [e]
theorem tbt_zero {x : Int64} : x = 0 ↔ ∀ i, i < 64 → tbt x i = false := by
  refine ⟨fun e i _ => by rw [e]; exact tbt_0 i, fun h => ?_⟩
  apply Int64.toBitVec_inj.mp
  apply BitVec.eq_of_getLsbD_eq
  intro i hi
  have := h i hi
  unfold tbt at this
  rw [this]
  show false = (0#64).getLsbD i
  simp
theorem e_bit {N : Nat} {f : HF} {i : Nat} (hi : i < 40) : DX1_bit N (nI i) f = some (lN (2 ^ i)) := by
  unfold DX1_bit
  rw [bt_eq i hi]
theorem e_inb {N : Nat} {f : HF} {i : Nat} (hi : i < 40) (x : Int64) : DX1_isIn N x (nI i) f = some (if tbt x i = true then 1 else 0) := by
  unfold DX1_isIn
  rw [e_bit hi]
  simp only [Option.bind_some, bRT, bRW, bWW, bW, le0, ne10, if_true, if_false, not_true_eq_false, not_false_eq_true, uI_at, uA_1, uB_1, uG_1, uI_2]
  by_cases c : tbt x i = true
  · rw [if_pos c, if_neg (fun q => ?_)]
    have := (tbt_zero.mp q) i (by omega)
    rw [tbt_and, c, tbt_2 (by omega)] at this
    simp at this
  · rw [if_neg c, if_pos]
    apply tbt_zero.mpr
    intro j hj
    rw [tbt_and, tbt_2 hj]
    by_cases e : i = j
    · subst e
      simp [c]
    · simp [e]
def und (s : AS) (f : Nat) (g : Int32) : Prop := ∃ k, k + 1 < dpt s f ∧ nI (anc s f (k + 1)) = g
def hsP (s : AS) (g : Int32) (o : Nat) : Prop := ∃ f, f < s.2.2.2 ∧ s.1 f 1 = 5 ∧ s.1 f 4 = nI o ∧ und s f g
def ndC (s : AS) (i o : Nat) : Prop := (two (s.1 i 13) ∧ (s.1 (s.1 i 14).toNatClampNeg 4 = nI o ∨ s.1 (s.1 i 15).toNatClampNeg 4 = nI o)) ∨ (s.1 i 13 = 6 ∧ hsP s (s.1 i 14) o)
def isF (s : AS) (i : Nat) : Prop := ¬ s.1 i 13 = -1
theorem und_q {s t : AS} (h : t.1 = s.1) (f : Nat) (g : Int32) : und t f g ↔ und s f g := by
  unfold und
  rw [dpt_q h]
  simp only [anc_q h]
theorem ndC_q {s t : AS} (h : t.1 = s.1) (hn : t.2.2.2 = s.2.2.2) (i o : Nat) : ndC t i o ↔ ndC s i o := by
  unfold ndC hsP
  rw [h, hn]
  simp only [und_q h]
theorem ndC_F {s : AS} {i o : Nat} (h : ndC s i o) : isF s i := by
  rcases h with ⟨h, _⟩ | ⟨h, _⟩
  · intro q
    rw [q] at h
    exact absurd h.1 (by decide)
  · intro q
    rw [q] at h
    exact absurd h (by decide)
theorem e_ins12 {N h : Nat} {σ : SG} {s : AS} (hC : RC σ s) (hI : Inv s) {f : Nat} (hf : f < s.2.2.2) {g : Nat} (hg : g < s.2.2.2) : ∀ (w k : Nat) (v : Int32), dpt s f - k < w → k < dpt s f → (k + 1 < dpt s f → v = nI (anc s f (k + 1))) → (k + 1 = dpt s f → v = -1) → ∃ b : Int32, DX6_isInside_12 N (HH h σ) w (h + 1) (nI g) v (nI k) = some (.inl b) ∧ (b = 0 ∨ b = 1) ∧ (b = 1 ↔ ∃ k', k ≤ k' ∧ k' + 1 < dpt s f ∧ nI (anc s f (k' + 1)) = nI g) := by
  have hn := hI.n40
  obtain ⟨d1, d2, d3, d4, d5⟩ := hI.DP hf
  intro w
  induction w with
  | zero => intro k v hw; omega
  | succ w ih =>
    intro k v hw hk h1 h2
    rw [DX6_isInside_12, if_neg (show ¬ (40 : Int32) ≤ nI k from nI_ge (b := 40) (by omega) (by omega))]
    by_cases z : k + 1 = dpt s f
    · refine ⟨0, by rw [h2 z, if_pos rfl], Or.inl rfl, ⟨fun q => absurd q (by decide), fun ⟨k', a, b, _⟩ => by omega⟩⟩
    · have hk1 : k + 1 < dpt s f := by omega
      have ha := (d1 (k + 1) hk1).1
      rw [h1 hk1, if_neg (nI_nm1 (by omega))]
      by_cases e : nI (anc s f (k + 1)) = nI g
      · exact ⟨1, by rw [if_pos e], Or.inr rfl, ⟨fun _ => ⟨k, Nat.le_refl _, hk1, e⟩, fun _ => rfl⟩⟩
      · obtain ⟨b, b1, b2, b3⟩ := ih (k + 1) (s.1 (anc s f (k + 1)) 2) (by omega) hk1 (fun q => (d2 (k + 1) q).1) (fun q => by rw [show k + 1 = dpt s f - 1 by omega]; exact d4)
        refine ⟨b, ?_, b2, b3.trans ⟨fun ⟨k', x, y, z⟩ => ⟨k', by omega, y, z⟩, fun ⟨k', x, y, e'⟩ => ⟨k', ?_, y, e'⟩⟩⟩
        · rw [if_neg e]
          simp only [e_tg hC ha, Option.bind_some, bRT, bRW, bWW, bW, le0, ne10, if_true, if_false, not_true_eq_false, not_false_eq_true, uI_at, uA_1, uB_1, uG_1, uI_2, c_2 hC (show anc s f (k + 1) < 40 by omega), nI_1]
          exact b1
        · rcases Nat.lt_or_ge k k' with q | q
          · omega
          · obtain rfl : k' = k := by omega
            exact absurd e' e
theorem e_inside {N h : Nat} (hN : 10000 ≤ N) {σ : SG} {s : AS} (hC : RC σ s) (hI : Inv s) {f g : Nat} (hf : f < s.2.2.2) (hg : g < s.2.2.2) : ∃ b : Int32, DX6_isInside N (h + 1) (nI f) (nI g) (HH h σ) = some (.inl b) ∧ (b = 0 ∨ b = 1) ∧ (b = 1 ↔ und s f (nI g)) := by
  have hn := hI.n40
  obtain ⟨d1, d2, d3, d4, d5⟩ := hI.DP hf
  obtain ⟨b, b1, b2, b3⟩ := e_ins12 (N := N) (h := h) hC hI hf hg N 0 (s.1 f 2) (by omega) d3 (fun q => (d2 0 q).1) (fun q => by have := d4; rw [show dpt s f - 1 = 0 by omega] at this; exact this)
  refine ⟨b, ?_, b2, b3.trans ⟨fun ⟨k', _, y, z⟩ => ⟨k', y, z⟩, fun ⟨k', y, z⟩ => ⟨k', by omega, y, z⟩⟩⟩
  rw [nI_0] at b1
  simp only [DX6_isInside, t_ck, Option.bind_some, bRT, bRW, bWW, bW, le0, ne10, if_true, if_false, not_true_eq_false, not_false_eq_true, uI_at, uA_1, uB_1, uG_1, uI_2, e_tg hC hf, c_2 hC (show f < 40 by omega), b1]
theorem e_nb5 {N h : Nat} (hN : 10000 ≤ N) {σ : SG} {s : AS} (hC : RC σ s) (hI : Inv s) {g : Nat} (hg : g < s.2.2.2) : ∀ (w j : Nat) (x : Int64), s.2.2.2 - j < w → j ≤ s.2.2.2 → ∃ y, DX1_numbersIn_5 N (HH h σ) w (h + 246) (nI g) x (nI j) = some (.inl y) ∧ ∀ o, o < 64 → (tbt y o = true ↔ tbt x o = true ∨ ∃ f, j ≤ f ∧ f < s.2.2.2 ∧ s.1 f 1 = 5 ∧ s.1 f 4 = nI o ∧ und s f (nI g)) := by
  have hn := hI.n40
  intro w
  induction w with
  | zero => intro j x hw; omega
  | succ w ih =>
    intro j x hw hj
    simp only [DX1_numbersIn_5, DX1_numbersIn_64, o_ck, o_0, o_1, o_2, o_3, o_4, o_5, o_6, t_ck, t_0, v_ck, v_0, q_ck, q_0, q_1, q_2, q_3, q_4, wr_ck, wr_0, wr_1, wr_2, rd_ck, rd_0, rd_1, Option.bind_some, bRT, bRW, bWW, bW, le0, ne10, if_true, if_false, not_true_eq_false, not_false_eq_true, uI_at, uA_1, uB_1, uG_1, uI_2, e_tc hC]
    by_cases z : s.2.2.2 ≤ j
    · refine ⟨x, by rw [if_pos (nI_le z (by omega))], fun o ho => ⟨Or.inl, fun q => ?_⟩⟩
      rcases q with q | ⟨f, h1, h2, _⟩
      · exact q
      · omega
    · have hlt : j < s.2.2.2 := by omega
      have hj4 : j < 40 := by omega
      rw [if_neg (nI_ge hlt (by omega))]
      simp only [e_tg hC hlt, Option.bind_some, bRT, bRW, bWW, bW, le0, ne10, if_true, if_false, not_true_eq_false, not_false_eq_true, uI_at, uA_1, uB_1, uG_1, uI_2, c_1 hC hj4, c_4 hC hj4, nI_1]
      have skip : ¬ (s.1 j 1 = 5 ∧ und s j (nI g)) → ∃ y, DX1_numbersIn_5 N (HH h σ) w (h + 246) (nI g) x (nI (j + 1)) = some (.inl y) ∧ ∀ o, o < 64 → (tbt y o = true ↔ tbt x o = true ∨ ∃ f, j ≤ f ∧ f < s.2.2.2 ∧ s.1 f 1 = 5 ∧ s.1 f 4 = nI o ∧ und s f (nI g)) := fun hno => by
        obtain ⟨y, y1, y2⟩ := ih (j + 1) x (by omega) (by omega)
        refine ⟨y, y1, fun o ho => (y2 o ho).trans ⟨?_, ?_⟩⟩
        · rintro (q | ⟨f, a, b, c⟩)
          · exact Or.inl q
          · exact Or.inr ⟨f, by omega, b, c⟩
        · rintro (q | ⟨f, a, b, c⟩)
          · exact Or.inl q
          · rcases Nat.lt_or_ge j f with e | e
            · exact Or.inr ⟨f, by omega, b, c⟩
            · obtain rfl : f = j := by omega
              exact absurd ⟨c.1, c.2.2⟩ hno
      by_cases k5 : s.1 j 1 = 5
      · rw [if_pos k5]
        obtain ⟨b, b1, b2, b3⟩ := e_inside (N := N) (h := h) hN hC hI hlt hg
        rw [b1]
        simp only [Option.bind_some, bRT, bRW, bWW, bW, le0, ne10, if_true, if_false, not_true_eq_false, not_false_eq_true, uI_at, uA_1, uB_1, uG_1, uI_2]
        rcases b2 with rfl | rfl
        · rw [if_pos rfl]
          exact skip (fun q => absurd (b3.mpr q.2) (by decide))
        · obtain ⟨fi, hfi, ef, _⟩ := hI.f hlt
          rw [if_neg (by decide), ef, e_bit (show fi < 40 by omega)]
          simp only [Option.bind_some, bRT, bRW, bWW, bW, le0, ne10, if_true, if_false, not_true_eq_false, not_false_eq_true, uI_at, uA_1, uB_1, uG_1, uI_2]
          obtain ⟨y, y1, y2⟩ := ih (j + 1) (x ||| lN (2 ^ fi)) (by omega) (by omega)
          refine ⟨y, y1, fun o ho => (y2 o ho).trans ?_⟩
          rw [tbt_or, tbt_2 ho, Bool.or_eq_true, decide_eq_true_iff]
          constructor
          · rintro ((q | q) | ⟨f, a, b, c⟩)
            · exact Or.inl q
            · subst q
              exact Or.inr ⟨j, Nat.le_refl _, hlt, k5, ef, b3.mp rfl⟩
            · exact Or.inr ⟨f, by omega, b, c⟩
          · rintro (q | ⟨f, a, b, c⟩)
            · exact Or.inl (Or.inl q)
            · rcases Nat.lt_or_ge j f with e | e
              · exact Or.inr ⟨f, by omega, b, c⟩
              · obtain rfl : f = j := by omega
                have := c.2.1
                rw [ef, nI_eq (by omega) (by omega)] at this
                exact Or.inl (Or.inr this)
      · rw [if_neg k5]
        exact skip (fun q => k5 q.1)
theorem e_numbersIn {N h : Nat} (hN : 10000 ≤ N) {σ : SG} {s : AS} (hC : RC σ s) (hI : Inv s) {g : Nat} (hg : g < s.2.2.2) : ∃ y, DX1_numbersIn N (h + 246) (nI g) (HH h σ) = some (.inl y) ∧ ∀ o, o < 64 → (tbt y o = true ↔ hsP s (nI g) o) := by
  have hn := hI.n40
  obtain ⟨y, y1, y2⟩ := e_nb5 (N := N) (h := h) hN hC hI hg N 0 0 (by omega) (by omega)
  refine ⟨y, ?_, fun o ho => (y2 o ho).trans ?_⟩
  · rw [nI_0] at y1
    simp only [DX1_numbersIn, o_ck, o_0, o_1, o_2, o_3, o_4, o_5, o_6, t_ck, t_0, v_ck, v_0, q_ck, q_0, q_1, q_2, q_3, q_4, wr_ck, wr_0, wr_1, wr_2, rd_ck, rd_0, rd_1, Option.bind_some, bRT, bRW, bWW, bW, le0, ne10, if_true, if_false, not_true_eq_false, not_false_eq_true, uI_at, uA_1, uB_1, uG_1, uI_2, y1]
  · rw [tbt_0]
    unfold hsP
    constructor
    · rintro (q | ⟨f, a, b⟩)
      · exact absurd q (by decide)
      · exact ⟨f, b⟩
    · rintro ⟨f, b⟩
      exact Or.inr ⟨f, by omega, b⟩
theorem e_needsOf {N h : Nat} (hN : 10000 ≤ N) {σ : SG} {s : AS} (hC : RC σ s) (hI : Inv s) {i : Nat} (hi : i < s.2.2.2) : ∃ y, DX1_needsOf N (h + 246) (h + (3 + 6 * i)) (HH h σ) = some (.inl y) ∧ ∀ o, o < 64 → (tbt y o = true ↔ ndC s i o) := by
  have hn := hI.n40
  have hi4 : i < 40 := by omega
  by_cases ht : two (s.1 i 13)
  · obtain ⟨a, b, ha, hb, ea, eb, _, _⟩ := (hI.O hi).2.1 ht
    obtain ⟨fa, hfa, efa, _⟩ := hI.f ha
    obtain ⟨fb, hfb, efb, _⟩ := hI.f hb
    refine ⟨lN (2 ^ fa) ||| lN (2 ^ fb), ?_, fun o ho => ?_⟩
    · have n0 : ¬ s.1 i 13 < 0 := Int32.not_lt.mpr ht.1
      have n5' : ¬ (5 : Int32) < s.1 i 13 := Int32.not_lt.mpr ht.2
      simp only [DX1_needsOf, o_ck, o_0, o_1, o_2, o_3, o_4, o_5, o_6, t_ck, t_0, v_ck, v_0, q_ck, q_0, q_1, q_2, q_3, q_4, wr_ck, wr_0, wr_1, wr_2, rd_ck, rd_0, rd_1, Option.bind_some, bRT, bRW, bWW, bW, le0, ne10, if_true, if_false, not_true_eq_false, not_false_eq_true, uI_at, uA_1, uB_1, uG_1, uI_2, c_13 hC hi4, n0, n5', c_14 hC hi4, c_15 hC hi4, ea, eb, e_tg hC ha, e_tg hC hb, c_4 hC (show a < 40 by omega), c_4 hC (show b < 40 by omega), efa, efb, e_bit (show fa < 40 by omega), e_bit (show fb < 40 by omega)]
    · rw [tbt_or, tbt_2 ho, tbt_2 ho, Bool.or_eq_true, decide_eq_true_iff, decide_eq_true_iff]
      unfold ndC
      rw [ea, eb, nI_clamp (by omega), nI_clamp (by omega), efa, efb, nI_eq (by omega) (by omega), nI_eq (by omega) (by omega)]
      constructor
      · intro q
        exact Or.inl ⟨ht, q⟩
      · rintro (q | ⟨q, _⟩)
        · exact q.2
        · rw [q] at ht; exact absurd ht.2 (by decide)
  · have hcl : DX1_needsOf N (h + 246) (h + (3 + 6 * i)) (HH h σ) = DX1_needsOf_51 N (HH h σ) (h + 246) (h + (3 + 6 * i)) := by
      simp only [DX1_needsOf, o_ck, o_0, o_1, o_2, o_3, o_4, o_5, o_6, t_ck, t_0, v_ck, v_0, q_ck, q_0, q_1, q_2, q_3, q_4, wr_ck, wr_0, wr_1, wr_2, rd_ck, rd_0, rd_1, Option.bind_some, bRT, bRW, bWW, bW, le0, ne10, if_true, if_false, not_true_eq_false, not_false_eq_true, uI_at, uA_1, uB_1, uG_1, uI_2, c_13 hC hi4]
      by_cases c0 : s.1 i 13 < 0
      · rw [if_pos c0]
      · rw [if_neg c0, if_pos (Int32.not_le.mp (fun z => ht ⟨Int32.not_lt.mp c0, z⟩))]
    rw [hcl]
    by_cases h6 : s.1 i 13 = 6
    · obtain ⟨a, ha, ea⟩ := (hI.O hi).2.2 h6
      obtain ⟨y, y1, y2⟩ := e_numbersIn (N := N) (h := h) hN hC hI ha
      refine ⟨y, ?_, fun o ho => (y2 o ho).trans ?_⟩
      · simp only [DX1_needsOf_51, Option.bind_some, bRT, bRW, bWW, bW, le0, ne10, if_true, if_false, not_true_eq_false, not_false_eq_true, uI_at, uA_1, uB_1, uG_1, uI_2, c_13 hC hi4, h6, c_14 hC hi4, ea, y1]
      · unfold ndC
        rw [ea]
        exact ⟨fun q => Or.inr ⟨h6, q⟩, fun q => by
          rcases q with q | q
          · exact absurd q.1 ht
          · exact q.2⟩
    · refine ⟨0, ?_, fun o ho => ?_⟩
      · simp only [DX1_needsOf_51, Option.bind_some, bRT, bRW, bWW, bW, le0, ne10, if_true, if_false, not_true_eq_false, not_false_eq_true, uI_at, uA_1, uB_1, uG_1, uI_2, c_13 hC hi4, h6]
      · rw [tbt_0]
        unfold ndC
        exact ⟨fun q => absurd q (by decide), fun q => by
          rcases q with q | q
          · exact absurd q.1 ht
          · exact absurd q.1 h6⟩
