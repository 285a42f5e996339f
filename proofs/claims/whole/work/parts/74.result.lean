/-! RESULTS OF FORMULAS -/
def rgI (v : Int) : Option Int := if -999999999999 ≤ v ∧ v ≤ 999999999999 then some v else none
def rg (x : Int64) : Option Int := rgI x.toInt
theorem rg_of {v : Int} (h : -9000000000000000 ≤ v ∧ v ≤ 9000000000000000) : rg (Int64.ofInt v) = rgI v := by
  unfold rg
  rw [ofI h]
theorem rg_min : rg (-9223372036854775808) = none := by decide +kernel
theorem rg_no : rg 9000000000000000000 = none := by decide +kernel
theorem rgI_in {v : Int} (h : -999999999999 ≤ v ∧ v ≤ 999999999999) : rgI v = some v := if_pos h
theorem rgI_no {v : Int} (h : 999999999999 < v.natAbs) : rgI v = none := if_neg (by omega)
def cmb (o : Int32) (a b : Int) : Option Int :=
  if o = 0 then rgI (a + b) else if o = 1 then rgI (a - b) else if o = 2 then rgI ((a * b).tdiv 1000) else if o = 3 then (if b = 0 then none else rgI ((a * 1000).tdiv b)) else if o = 4 then rgI (if b < a then b else a) else rgI (if b < a then a else b)
theorem tdv_le {a b : Int} {n : Nat} (h : a.natAbs ≤ n) : (a.tdiv b).natAbs ≤ n := by
  rw [Int.natAbs_tdiv]
  exact Nat.le_trans (Nat.div_le_self _ _) h
theorem dvV {a b : Int} (ha : -9000000000000000 ≤ a ∧ a ≤ 9000000000000000) (hb : -9000000000000000 ≤ b ∧ b ≤ 9000000000000000) : Int64.ofInt a / Int64.ofInt b = Int64.ofInt (a.tdiv b) := by
  refine (Int64.ofInt_tdiv ?_ ?_ ?_ ?_).symm
  · exact Int.le_trans (by decide +kernel) ha.1
  · exact Int.le_trans ha.2 (by decide +kernel)
  · exact Int.le_trans (by decide +kernel) hb.1
  · exact Int.le_trans hb.2 (by decide +kernel)
theorem eqV {a b : Int} (ha : -9000000000000000 ≤ a ∧ a ≤ 9000000000000000) (hb : -9000000000000000 ≤ b ∧ b ≤ 9000000000000000) : (Int64.ofInt a = Int64.ofInt b) = (a = b) := by
  rw [← Int64.toInt_inj, ofI ha, ofI hb]
theorem leV {a b : Int} (ha : -9000000000000000 ≤ a ∧ a ≤ 9000000000000000) (hb : -9000000000000000 ≤ b ∧ b ≤ 9000000000000000) : (Int64.ofInt a ≤ Int64.ofInt b) = (a ≤ b) := by
  rw [Int64.le_iff_toInt_le, ofI ha, ofI hb]
theorem ltV {a b : Int} (ha : -9000000000000000 ≤ a ∧ a ≤ 9000000000000000) (hb : -9000000000000000 ≤ b ∧ b ≤ 9000000000000000) : (Int64.ofInt a < Int64.ofInt b) = (a < b) := by
  rw [Int64.lt_iff_toInt_lt, ofI ha, ofI hb]
theorem q_le {a b C : Nat} (hb : 0 < b) (ha : a ≤ 999999999999) (hb2 : b ≤ 999999999999) (hC : C ≤ 1000000000000000) : (lN a ≤ Int64.ofInt (C : Int) / lN b) = (a * b ≤ C) := by
  have hq : ((C : Int).tdiv (b : Int)) = ((C / b : Nat) : Int) := (Int.ofNat_tdiv C b).symm
  have hl : C / b ≤ C := Nat.div_le_self _ _
  have h0 : (0 : Int) ≤ ((C / b : Nat) : Int) := Int.natCast_nonneg _
  rw [lN_ofInt, lN_ofInt, dvV (by omega) (by omega), hq, leV (by omega) (by omega), Int.ofNat_le, Nat.le_div_iff_mul_le hb]
theorem prd_in {a b : Int} (h : a.natAbs * b.natAbs ≤ 1000000000000000) : rg ((Int64.ofInt a * Int64.ofInt b) / 1000) = rgI ((a * b).tdiv 1000) := by
  have h2 : (a * b).natAbs ≤ 1000000000000000 := by rw [Int.natAbs_mul]; exact h
  have h3 := tdv_le (b := 1000) h2
  rw [← Int64.ofInt_mul, show (1000 : Int64) = Int64.ofInt 1000 from rfl, dvV (by omega) (by omega), rg_of (by omega)]
theorem prd_no {a b : Int} (h : 999999999999999 < a.natAbs * b.natAbs) : rgI ((a * b).tdiv 1000) = none := by
  apply rgI_no
  rw [Int.natAbs_tdiv, Int.natAbs_mul]
  show 999999999999 < _ / 1000
  omega
theorem e_product {N : Nat} {f : HF} {a b : Int} (ha : -999999999999 ≤ a ∧ a ≤ 999999999999) (hb : -999999999999 ≤ b ∧ b ≤ 999999999999) : ∃ x, DX0_product N (Int64.ofInt a) (Int64.ofInt b) f = some x ∧ rg x = rgI ((a * b).tdiv 1000) := by
  unfold DX0_product DX0_product_30
  by_cases z : b = 0
  · subst z
    refine ⟨_, if_pos rfl, prd_in (by simp)⟩
  · have z0 : ¬ Int64.ofInt b = (0 : Int64) := fun e => z ((eqV (b := 0) (by omega) (by omega)).mp e)
    have z1 : ¬ lN b.natAbs = (0 : Int64) := fun e => by
      have := (eqV (a := (b.natAbs : Int)) (b := 0) (by omega) (by omega)).mp e
      omega
    rw [if_neg z0, abV (by omega), abV (by omega), if_pos z1]
    by_cases c : a.natAbs * b.natAbs ≤ 999999999999999
    · refine ⟨_, if_pos ?_, prd_in (by omega)⟩
      exact (q_le (C := 999999999999999) (by omega) (by omega) (by omega) (by omega)).mpr c
    · refine ⟨_, if_neg (fun q => c ?_), ?_⟩
      · exact (q_le (C := 999999999999999) (by omega) (by omega) (by omega) (by omega)).mp q
      · rw [rg_min, prd_no (by omega)]
def okx (x : Int64) : Prop := -9223372036854775808 < x.toInt
theorem okx_of {v : Int} (h : -9000000000000000 ≤ v ∧ v ≤ 9000000000000000) : okx (Int64.ofInt v) := by
  unfold okx
  rw [ofI h]
  omega
theorem okx_no : okx 9000000000000000000 := by
  unfold okx
  decide +kernel
theorem okx_7 (x : Int32) : okx x.toInt64 := by
  unfold okx
  rw [Int32.toInt_toInt64]
  have := Int32.le_toInt x
  omega
theorem prd_ok {a b : Int} (h : a.natAbs * b.natAbs ≤ 1000000000000000) : okx ((Int64.ofInt a * Int64.ofInt b) / 1000) := by
  have h2 : (a * b).natAbs ≤ 1000000000000000 := by rw [Int.natAbs_mul]; exact h
  have h3 := tdv_le (b := 1000) h2
  rw [← Int64.ofInt_mul, show (1000 : Int64) = Int64.ofInt 1000 from rfl, dvV (by omega) (by omega)]
  exact okx_of (by omega)
theorem f_abs {N : Nat} {f : HF} {v : Int} (h : -9000000000000000 ≤ v ∧ v ≤ 9000000000000000) : DX10_abs N (Int64.ofInt v) f = some (lN v.natAbs) := by
  unfold DX10_abs
  by_cases c : 0 ≤ v
  · rw [if_pos (by rw [le0V h]; exact c), posV c]
  · rw [if_neg (by rw [le0V h]; exact c), negV (by omega)]
theorem f_product {N h : Nat} {σ : SG} {a b : Int} (ha : -999999999999 ≤ a ∧ a ≤ 999999999999) (hb : -999999999999 ≤ b ∧ b ≤ 999999999999) : ∃ x, DX10_product N (h + 275) (Int64.ofInt a) (Int64.ofInt b) (HH h σ) = some x ∧ rg x = rgI ((a * b).tdiv 1000) ∧ okx x := by
  simp only [DX10_product, DX10_product_26, r_ck, Option.bind_some, bRT, bRW, bWW, bW, le0, ne10, if_true, if_false, not_true_eq_false, not_false_eq_true, uI_at, uA_1, uB_1, uG_1, uI_2]
  by_cases z : a = 0
  · subst z
    refine ⟨_, if_pos rfl, prd_in (by simp), prd_ok (by simp)⟩
  · have z0 : ¬ Int64.ofInt a = (0 : Int64) := fun e => z ((eqV (b := 0) (by omega) (by omega)).mp e)
    have z1 : ¬ lN a.natAbs = (0 : Int64) := fun e => by
      have := (eqV (a := (a.natAbs : Int)) (b := 0) (by omega) (by omega)).mp e
      omega
    simp only [f_abs (N := N) (f := HH h σ) (v := a) (by omega), f_abs (N := N) (f := HH h σ) (v := b) (by omega), Option.bind_some, bRT, bRW, bWW, bW, le0, ne10, if_true, if_false, not_true_eq_false, not_false_eq_true, uI_at, uA_1, uB_1, uG_1, uI_2]
    rw [if_neg z0, if_pos z1]
    have hc : b.natAbs * a.natAbs = a.natAbs * b.natAbs := Nat.mul_comm _ _
    by_cases c : a.natAbs * b.natAbs ≤ 1000000000000000
    · refine ⟨_, if_pos ?_, prd_in (by omega), prd_ok (by omega)⟩
      exact (q_le (C := 1000000000000000) (by omega) (by omega) (by omega) (by omega)).mpr (by rw [hc]; exact c)
    · refine ⟨_, if_neg (fun q => c ?_), ?_, okx_no⟩
      · rw [← hc]
        exact (q_le (C := 1000000000000000) (by omega) (by omega) (by omega) (by omega)).mp q
      · rw [rg_no, prd_no (by omega)]
theorem e_combine {N : Nat} {f : HF} {o : Int32} (ho : two o) {a b : Int} (ha : -999999999999 ≤ a ∧ a ≤ 999999999999) (hb : -999999999999 ≤ b ∧ b ≤ 999999999999) : ∃ x, DX0_combine N o (Int64.ofInt a) (Int64.ofInt b) f = some x ∧ rg x = cmb o a b := by
  unfold DX0_combine cmb
  by_cases c0 : o = 0
  · simp only [if_pos c0]
    exact ⟨_, rfl, by rw [← Int64.ofInt_add, rg_of (by omega)]⟩
  · simp only [if_neg c0]
    by_cases c1 : o = 1
    · simp only [if_pos c1]
      exact ⟨_, rfl, by rw [← Int64.ofInt_sub, rg_of (by omega)]⟩
    · simp only [if_neg c1]
      by_cases c2 : o = 2
      · simp only [if_pos c2]
        obtain ⟨x, x1, x2⟩ := e_product (N := N) (f := f) ha hb
        exact ⟨x, by rw [x1]; rfl, x2⟩
      · simp only [if_neg c2]
        by_cases c3 : o = 3
        · simp only [if_pos c3]
          by_cases z : b = 0
          · subst z
            exact ⟨_, by rw [if_pos (show Int64.ofInt 0 = (0 : Int64) from rfl)], by rw [if_pos rfl]; exact rg_min⟩
          · have z0 : ¬ Int64.ofInt b = (0 : Int64) := fun e => z ((eqV (b := 0) (by omega) (by omega)).mp e)
            refine ⟨_, by rw [if_neg z0, if_pos z0], ?_⟩
            have h3 := tdv_le (a := a * 1000) (b := b) (n := 999999999999000) (by omega)
            rw [if_neg z, show (1000 : Int64) = Int64.ofInt 1000 from rfl, ← Int64.ofInt_mul, dvV (by omega) (by omega), rg_of (by omega)]
        · simp only [if_neg c3]
          by_cases c4 : o = 4
          · simp only [if_pos c4]
            refine ⟨_, rfl, ?_⟩
            unfold mnL
            simp only [ltV (a := b) (b := a) (by omega) (by omega)]
            by_cases q : b < a
            · rw [if_pos q, if_pos q, rg_of (by omega)]
            · rw [if_neg q, if_neg q, rg_of (by omega)]
          · have c5 : o = 5 := by
              obtain ⟨j, hj, rfl⟩ := nI_of2 (M := 5) (n := 5) (by decide) (Int32.not_lt.mpr ho.1) ho.2
              rcases (show j = 0 ∨ j = 1 ∨ j = 2 ∨ j = 3 ∨ j = 4 ∨ j = 5 by omega) with q | q | q | q | q | q <;> subst q
              · exact absurd rfl c0
              · exact absurd rfl c1
              · exact absurd rfl c2
              · exact absurd rfl c3
              · exact absurd rfl c4
              · rfl
            simp only [if_neg c4, if_pos c5]
            refine ⟨_, rfl, ?_⟩
            unfold mxL
            simp only [ltV (a := b) (b := a) (by omega) (by omega)]
            by_cases q : b < a
            · rw [if_pos q, if_pos q, rg_of (by omega)]
            · rw [if_neg q, if_neg q, rg_of (by omega)]
theorem f_r107 {N h : Nat} {σ : SG} {o : Int32} (ho : two o) {a b : Int} (ha : -999999999999 ≤ a ∧ a ≤ 999999999999) (hb : -999999999999 ≤ b ∧ b ≤ 999999999999) (hz : o = 3 → ¬ b = 0) : ∃ x, DX10_result_107 N (HH h σ) (h + 275) o (Int64.ofInt a) (Int64.ofInt b) = some x ∧ rg x = cmb o a b ∧ okx x := by
  unfold DX10_result_107 cmb
  by_cases c0 : o = 0
  · simp only [if_pos c0]
    exact ⟨_, rfl, by rw [← Int64.ofInt_add, rg_of (by omega)], by rw [← Int64.ofInt_add]; exact okx_of (by omega)⟩
  · simp only [if_neg c0]
    by_cases c1 : o = 1
    · simp only [if_pos c1]
      exact ⟨_, rfl, by rw [← Int64.ofInt_sub, rg_of (by omega)], by rw [← Int64.ofInt_sub]; exact okx_of (by omega)⟩
    · simp only [if_neg c1]
      by_cases c2 : o = 2
      · simp only [if_pos c2]
        obtain ⟨x, x1, x2⟩ := f_product (N := N) (h := h) (σ := σ) ha hb
        exact ⟨x, by rw [x1]; rfl, x2⟩
      · simp only [if_neg c2]
        by_cases c3 : o = 3
        · simp only [if_pos c3]
          have z := hz c3
          have z0 : ¬ Int64.ofInt b = (0 : Int64) := fun e => z ((eqV (b := 0) (by omega) (by omega)).mp e)
          have h3 := tdv_le (a := a * 1000) (b := b) (n := 999999999999000) (by omega)
          have e3 : Int64.ofInt a * (1000 : Int64) / Int64.ofInt b = Int64.ofInt ((a * 1000).tdiv b) := by rw [show (1000 : Int64) = Int64.ofInt 1000 from rfl, ← Int64.ofInt_mul, dvV (by omega) (by omega)]
          refine ⟨_, by rw [if_pos z0], ?_, ?_⟩
          · rw [if_neg z, e3, rg_of (by omega)]
          · rw [e3]
            exact okx_of (by omega)
        · simp only [if_neg c3]
          by_cases c4 : o = 4
          · simp only [if_pos c4, leV (a := b) (b := a) (by omega) (by omega)]
            by_cases q : b < a
            · exact ⟨_, by rw [if_pos (show b ≤ a by omega)], by rw [if_pos q, rg_of (by omega)], okx_of (by omega)⟩
            · by_cases q2 : b ≤ a
              · exact ⟨_, by rw [if_pos q2], by rw [if_neg q, rg_of (by omega), show a = b by omega], okx_of (by omega)⟩
              · exact ⟨_, by rw [if_neg q2], by rw [if_neg q, rg_of (by omega)], okx_of (by omega)⟩
          · simp only [if_neg c4, leV (a := a) (b := b) (by omega) (by omega)]
            by_cases q : b < a
            · exact ⟨_, by rw [if_neg (show ¬ a ≤ b by omega)], by rw [if_pos q, rg_of (by omega)], okx_of (by omega)⟩
            · exact ⟨_, by rw [if_pos (show a ≤ b by omega)], by rw [if_neg q, rg_of (by omega)], okx_of (by omega)⟩
/-! sums of groups -/
def undB (s : AS) (f : Nat) (g : Int32) : Bool := (List.range (dpt s f - 1)).any fun k => decide (nI (anc s f (k + 1)) = g)
def hsB (s : AS) (g : Int32) (o : Nat) : Bool := (List.range s.2.2.2).any fun f => decide (s.1 f 1 = 5) && decide (s.1 f 4 = nI o) && undB s f g
theorem undB_iff {s : AS} {f : Nat} {g : Int32} : undB s f g = true ↔ und s f g := by
  unfold undB und
  rw [List.any_eq_true]
  constructor
  · rintro ⟨k, h1, h2⟩
    rw [List.mem_range] at h1
    exact ⟨k, by omega, of_decide_eq_true h2⟩
  · rintro ⟨k, h1, h2⟩
    exact ⟨k, List.mem_range.mpr (by omega), decide_eq_true h2⟩
theorem hsB_iff {s : AS} {g : Int32} {o : Nat} : hsB s g o = true ↔ hsP s g o := by
  unfold hsB hsP
  rw [List.any_eq_true]
  constructor
  · rintro ⟨k, h1, h2⟩
    rw [List.mem_range] at h1
    rw [Bool.and_eq_true, Bool.and_eq_true] at h2
    exact ⟨k, h1, of_decide_eq_true h2.1.1, of_decide_eq_true h2.1.2, undB_iff.mp h2.2⟩
  · rintro ⟨k, h1, h2, h3, h4⟩
    refine ⟨k, List.mem_range.mpr h1, ?_⟩
    rw [Bool.and_eq_true, Bool.and_eq_true]
    exact ⟨⟨decide_eq_true h2, decide_eq_true h3⟩, undB_iff.mpr h4⟩
def smF (s : AS) (g : Int32) : Nat → Nat → Int → Option Int
  | 0, _, t => some t
  | w + 1, j, t => if hsB s g j = true then (match amF s j with | none => none | some a => smF s g w (j + 1) (t + a)) else smF s g w (j + 1) t
theorem smF_rng {s : AS} {g : Int32} : ∀ (w j : Nat) (t v : Int) (B : Nat), t.natAbs ≤ B → smF s g w j t = some v → v.natAbs ≤ B + w * 999999999999
  | 0, j, t, v, B, hB, e => by
    simp only [smF, Option.some.injEq] at e
    subst e
    omega
  | w + 1, j, t, v, B, hB, e => by
    simp only [smF] at e
    by_cases c : hsB s g j = true
    · rw [if_pos c] at e
      cases ea : amF s j with
      | none => rw [ea] at e; exact absurd e (by simp)
      | some a =>
        rw [ea] at e
        have := amF_rng ea
        have := smF_rng w (j + 1) (t + a) v (B + 999999999999) (by omega) e
        rw [Nat.succ_mul]
        generalize w * 999999999999 = W at this ⊢
        omega
    · rw [if_neg c] at e
      have := smF_rng w (j + 1) t v B hB e
      rw [Nat.succ_mul]
      generalize w * 999999999999 = W at this ⊢
      omega
theorem hsP_m {s : AS} (hI : Inv s) {g : Int32} {o : Nat} (ho : o < 40) (h : hsP s g o) : o < s.2.2.2 ∧ s.1 o 1 = 5 ∧ s.1 o 4 = nI o := by
  have hn := hI.n40
  obtain ⟨f, h1, h2, h3, _⟩ := h
  obtain ⟨q, q1, q2, q3, q4⟩ := hI.fst h1
  rw [h3, nI_eq (by omega) (by omega)] at q2
  subst q2
  exact ⟨by omega, by rw [q4]; exact h2, q3⟩
theorem e_sum5 {N h : Nat} (hN : 10000 ≤ N) {σ : SG} {s : AS} (hC : RC σ s) (hI : Inv s) {g : Int32} {y : Int64} (hy : ∀ o, o < 64 → (tbt y o = true ↔ hsP s g o)) : ∀ (w j : Nat) (t : Int), s.2.2.2 - j < w → j ≤ s.2.2.2 → DX1_sumOf_5 N (HH h σ) w (h + 246) y (Int64.ofInt t) (nI j) = some (.inl (match smF s g (s.2.2.2 - j) j t with | none => -9223372036854775808 | some v => Int64.ofInt v)) := by
  have hn := hI.n40
  intro w
  induction w with
  | zero => intro j t hw; omega
  | succ w ih =>
    intro j t hw hj
    simp only [DX1_sumOf_5, DX1_sumOf_58, o_ck, o_0, o_1, o_2, o_3, o_4, o_5, o_6, t_ck, t_0, v_ck, v_0, q_ck, q_0, q_1, q_2, q_3, q_4, wr_ck, wr_0, wr_1, wr_2, rd_ck, rd_0, rd_1, Option.bind_some, bRT, bRW, bWW, bW, le0, ne10, if_true, if_false, not_true_eq_false, not_false_eq_true, uI_at, uA_1, uB_1, uG_1, uI_2, e_tc hC]
    by_cases z : s.2.2.2 ≤ j
    · rw [if_pos (nI_le z (by omega)), show s.2.2.2 - j = 0 by omega]
      rfl
    · have hlt : j < s.2.2.2 := by omega
      obtain ⟨d, hd⟩ : ∃ d, s.2.2.2 - j = d + 1 := ⟨s.2.2.2 - j - 1, by omega⟩
      have hd2 : s.2.2.2 - (j + 1) = d := by omega
      have hb := hy j (by omega)
      rw [← hsB_iff] at hb
      rw [if_neg (nI_ge hlt (by omega)), hd]
      simp only [e_inb (show j < 40 by omega), Option.bind_some, bRT, bRW, bWW, bW, le0, ne10, if_true, if_false, not_true_eq_false, not_false_eq_true, uI_at, uA_1, uB_1, uG_1, uI_2, ite01, smF]
      by_cases c : hsB s g j = true
      · obtain ⟨_, k5, _⟩ := hsP_m hI (by omega) (hsB_iff.mp c)
        rw [if_neg (fun q => q (hb.mpr c)), if_pos c]
        simp only [e_tg hC hlt, Option.bind_some, bRT, bRW, bWW, bW, le0, ne10, if_true, if_false, not_true_eq_false, not_false_eq_true, uI_at, uA_1, uB_1, uG_1, uI_2, e_amount hN hC hI hlt (Or.inr k5)]
        cases ea : amF s j with
        | none => exact if_pos rfl
        | some a =>
          have hr := amF_rng ea
          rw [show encC (some a) = Int64.ofInt a from rfl, if_neg (encC_n hr), ← Int64.ofInt_add, nI_1, ih (j + 1) (t + a) (by omega) (by omega), hd2]
      · rw [if_pos (fun q => c (hb.mp q)), if_neg c, nI_1, ih (j + 1) t (by omega) (by omega), hd2]
theorem e_sum {N h : Nat} (hN : 10000 ≤ N) {σ : SG} {s : AS} (hC : RC σ s) (hI : Inv s) {g : Int32} {y : Int64} (hy : ∀ o, o < 64 → (tbt y o = true ↔ hsP s g o)) : DX1_sumOf N (h + 246) y (HH h σ) = some (.inl (match smF s g s.2.2.2 0 0 with | none => -9223372036854775808 | some v => Int64.ofInt v)) := by
  have hn := hI.n40
  have := e_sum5 (N := N) (h := h) hN hC hI hy N 0 0 (by omega) (by omega)
  rw [nI_0] at this
  simp only [DX1_sumOf, o_ck, o_0, o_1, o_2, o_3, o_4, o_5, o_6, t_ck, t_0, v_ck, v_0, q_ck, q_0, q_1, q_2, q_3, q_4, wr_ck, wr_0, wr_1, wr_2, rd_ck, rd_0, rd_1, Option.bind_some, bRT, bRW, bWW, bW, le0, ne10, if_true, if_false, not_true_eq_false, not_false_eq_true, uI_at, uA_1, uB_1, uG_1, uI_2]
  exact this
theorem f_grpNo {N h : Nat} (hN : 10000 ≤ N) {σ : SG} {s : AS} (hM : RM σ s) (hI : Inv s) (hl : ∀ q, q < 40 → (s.2.2.1 q 0).length ≤ 30) {g : Nat} (hg : g < s.2.2.2) : ∀ (w j : Nat), s.2.2.2 - j < w → j ≤ s.2.2.2 → DX10_group_5 N (HH h σ) w (h + 275) (nI g) 9000000000000000000 (nI j) = some 9000000000000000000 := by
  have hn := hI.n40
  intro w
  induction w with
  | zero => intro j hw; omega
  | succ w ih =>
    intro j hw hj
    simp only [DX10_group_5, DX10_group_83, DX10_group_82, DX10_group_72, r_ck, r_0, r_1, r_2, r_3, r_4, r_5, r_6, r_7, r_8, r_9, r_10, r_11, r_12, r_13, r_14, r_15, r_16, r_17, r_18, r_19, r_20, r_21, r_22, r_23, r_24, r_25, r_26, r_27, r_28, r_29, r_30, r_31, r_32, r_33, r_34, r_35, r_36, r_37, rp_0, rp_1, rp_26, rp_28, rp_30, rp_33, rp_35, rp_37, Option.bind_some, bRT, bRW, bWW, bW, le0, ne10, if_true, if_false, not_true_eq_false, not_false_eq_true, uI_at, uA_1, uB_1, uG_1, uI_2, hM.nn]
    by_cases z : s.2.2.2 ≤ j
    · rw [if_pos (nI_le z (by omega))]
    · have hlt : j < s.2.2.2 := by omega
      have := ih (j + 1) (by omega) (by omega)
      obtain ⟨b, b1, b2, b3⟩ := f_has (N := N) (h := h) hN hM hI hg j
      rw [if_neg (nI_ge hlt (by omega))]
      simp only [m_kind hM hn hlt, m_par hM hn hlt, m_name hM hn hlt, m_fst hM hn hlt, m_wid hM hn hlt, m_hei hM hn hlt, m_lea hM hn hlt, m_mos hM hn hlt, m_op hM hn hlt, m_sid hM hn hlt, m_flat hM hn hlt, m_lock hM hn hlt, m_failing hM hn hlt, m_many hM hn hlt, m_opts hM hn hlt, m_set0 hM hn hlt, m_set1 hM hn hlt, m_set2 hM hn hlt, m_set3 hM hn hlt, m_set4 hM hn hlt, Option.bind_some, bRT, bRW, bWW, bW, le0, ne10, if_true, if_false, not_true_eq_false, not_false_eq_true, uI_at, uA_1, uB_1, uG_1, uI_2, b1, f_amountF hN hM hI hlt (hl j (by omega)), nI_1, this]
      split
      · split
        · split
          · rfl
          · split <;> rfl
        · rfl
      · rfl
theorem f_grp5 {N h : Nat} (hN : 10000 ≤ N) {σ : SG} {s : AS} (hM : RM σ s) (hI : Inv s) (hl : ∀ q, q < 40 → (s.2.2.1 q 0).length ≤ 30) {g : Nat} (hg : g < s.2.2.2) : ∀ (w j : Nat) (t : Int), s.2.2.2 - j < w → j ≤ s.2.2.2 → t.natAbs ≤ j * 999999999999 → DX10_group_5 N (HH h σ) w (h + 275) (nI g) (Int64.ofInt t) (nI j) = some (match smF s (nI g) (s.2.2.2 - j) j t with | none => 9000000000000000000 | some v => Int64.ofInt v) := by
  have hn := hI.n40
  intro w
  induction w with
  | zero => intro j t hw; omega
  | succ w ih =>
    intro j t hw hj ht
    simp only [DX10_group_5, DX10_group_83, DX10_group_82, DX10_group_72, r_ck, r_0, r_1, r_2, r_3, r_4, r_5, r_6, r_7, r_8, r_9, r_10, r_11, r_12, r_13, r_14, r_15, r_16, r_17, r_18, r_19, r_20, r_21, r_22, r_23, r_24, r_25, r_26, r_27, r_28, r_29, r_30, r_31, r_32, r_33, r_34, r_35, r_36, r_37, rp_0, rp_1, rp_26, rp_28, rp_30, rp_33, rp_35, rp_37, Option.bind_some, bRT, bRW, bWW, bW, le0, ne10, if_true, if_false, not_true_eq_false, not_false_eq_true, uI_at, uA_1, uB_1, uG_1, uI_2, hM.nn]
    by_cases z : s.2.2.2 ≤ j
    · rw [if_pos (nI_le z (by omega)), show s.2.2.2 - j = 0 by omega]
      rfl
    · have hlt : j < s.2.2.2 := by omega
      obtain ⟨d, hd⟩ : ∃ d, s.2.2.2 - j = d + 1 := ⟨s.2.2.2 - j - 1, by omega⟩
      have hd2 : s.2.2.2 - (j + 1) = d := by omega
      obtain ⟨b, b1, b2, b3⟩ := f_has (N := N) (h := h) hN hM hI hg j
      rw [← hsB_iff] at b3
      have tn : ¬ Int64.ofInt t = (9000000000000000000 : Int64) := fun e => by
        have := congrArg Int64.toInt e
        rw [ofI (by omega)] at this
        have e2 : (9000000000000000000 : Int64).toInt = 9000000000000000000 := by decide +kernel
        omega
      rw [if_neg (nI_ge hlt (by omega)), hd]
      simp only [m_kind hM hn hlt, m_par hM hn hlt, m_name hM hn hlt, m_fst hM hn hlt, m_wid hM hn hlt, m_hei hM hn hlt, m_lea hM hn hlt, m_mos hM hn hlt, m_op hM hn hlt, m_sid hM hn hlt, m_flat hM hn hlt, m_lock hM hn hlt, m_failing hM hn hlt, m_many hM hn hlt, m_opts hM hn hlt, m_set0 hM hn hlt, m_set1 hM hn hlt, m_set2 hM hn hlt, m_set3 hM hn hlt, m_set4 hM hn hlt, Option.bind_some, bRT, bRW, bWW, bW, le0, ne10, if_true, if_false, not_true_eq_false, not_false_eq_true, uI_at, uA_1, uB_1, uG_1, uI_2, b1, f_amountF hN hM hI hlt (hl j (by omega)), nI_1, smF]
      by_cases c : hsB s (nI g) j = true
      · obtain ⟨_, k5, k4⟩ := hsP_m hI (by omega) (hsB_iff.mp c)
        rw [if_pos c, if_pos k4, if_pos k5, if_neg (by rw [b3.mpr c]; decide)]
        cases ea : amF s j with
        | none =>
          rw [show encM none = (9000000000000000000 : Int64) from rfl, if_pos rfl]
          exact f_grpNo hN hM hI hl hg w (j + 1) (by omega) (by omega)
        | some a =>
          have hr := amF_rng ea
          rw [show encM (some a) = Int64.ofInt a from rfl, if_neg (encM_n hr), if_neg tn, ← Int64.ofInt_add, ih (j + 1) (t + a) (by omega) (by omega) (by omega), hd2]
      · have e := ih (j + 1) t (by omega) (by omega) (Nat.le_trans ht (Nat.mul_le_mul_right _ (by omega)))
        have b0 : b = 0 := b2.resolve_right (fun q => c (b3.mp q))
        rw [hd2] at e
        rw [if_neg c, b0, e]
        split
        · split
          · exact if_pos rfl
          · rfl
        · rfl
theorem f_group {N h : Nat} (hN : 10000 ≤ N) {σ : SG} {s : AS} (hM : RM σ s) (hI : Inv s) (hl : ∀ q, q < 40 → (s.2.2.1 q 0).length ≤ 30) {g : Nat} (hg : g < s.2.2.2) : DX10_group N (h + 275) (nI g) (HH h σ) = some (match smF s (nI g) s.2.2.2 0 0 with | none => 9000000000000000000 | some v => Int64.ofInt v) := by
  have hn := hI.n40
  have := f_grp5 (N := N) (h := h) hN hM hI hl hg N 0 0 (by omega) (by omega) (by omega)
  rw [nI_0] at this
  simp only [DX10_group, r_ck, Option.bind_some, bRT, bRW, bWW, bW, le0, ne10, if_true, if_false, not_true_eq_false, not_false_eq_true, uI_at, uA_1, uB_1, uG_1, uI_2]
  exact this
/-! the result of a formula -/
def opn (s : AS) (i j : Nat) : Nat := (s.1 (s.1 i j).toNatClampNeg 4).toNatClampNeg
def res (s : AS) (i : Nat) : Option Int :=
  if s.1 i 16 = 0 then (if s.1 i 13 = 7 then rgI (s.1 i 14).toInt else if s.1 i 13 = 6 then (match smF s (s.1 i 14) s.2.2.2 0 0 with | none => none | some v => rgI v) else (match amF s (opn s i 14) with | none => none | some a => (match amF s (opn s i 15) with | none => none | some b => cmb (s.1 i 13) a b))) else none
theorem rg7 (x : Int32) : rg x.toInt64 = rgI x.toInt := by
  unfold rg
  rw [Int32.toInt_toInt64]
theorem two_of {s : AS} (hI : Inv s) {i : Nat} (hi : i < s.2.2.2) (hF : isF s i) (h7 : ¬ s.1 i 13 = 7) (h6 : ¬ s.1 i 13 = 6) : two (s.1 i 13) := by
  rcases (hI.O hi).1 with q | ⟨⟨o, ho, q⟩, _⟩
  · exact absurd q hF
  · rw [q] at h7 h6 ⊢
    rcases (show o = 0 ∨ o = 1 ∨ o = 2 ∨ o = 3 ∨ o = 4 ∨ o = 5 ∨ o = 6 ∨ o = 7 by omega) with r | r | r | r | r | r | r | r <;> subst r
    · exact ⟨by decide, by decide⟩
    · exact ⟨by decide, by decide⟩
    · exact ⟨by decide, by decide⟩
    · exact ⟨by decide, by decide⟩
    · exact ⟨by decide, by decide⟩
    · exact ⟨by decide, by decide⟩
    · exact absurd rfl h6
    · exact absurd rfl h7
theorem e_result {N h : Nat} (hN : 10000 ≤ N) {σ : SG} {s : AS} (hC : RC σ s) (hI : Inv s) {i : Nat} (hi : i < s.2.2.2) (hF : isF s i) : ∃ x, DX1_resultOf N (h + 246) (h + (3 + 6 * i)) (HH h σ) = some (.inl x) ∧ rg x = res s i := by
  have hn := hI.n40
  have hi4 : i < 40 := by omega
  simp only [DX1_resultOf, o_ck, o_0, o_1, o_2, o_3, o_4, o_5, o_6, t_ck, t_0, v_ck, v_0, q_ck, q_0, q_1, q_2, q_3, q_4, wr_ck, wr_0, wr_1, wr_2, rd_ck, rd_0, rd_1, Option.bind_some, bRT, bRW, bWW, bW, le0, ne10, if_true, if_false, not_true_eq_false, not_false_eq_true, uI_at, uA_1, uB_1, uG_1, uI_2, k1 hi4, g7 hi4, g8 hi4, g9 hi4, c_0 hC hi4, c_1 hC hi4, c_2 hC hi4, c_3 hC hi4, c_4 hC hi4, c_5 hC hi4, c_6 hC hi4, c_10 hC hi4, c_11 hC hi4, c_12 hC hi4, c_13 hC hi4, c_14 hC hi4, c_15 hC hi4, c_16 hC hi4, c_t0 hC hi4, c_t1 hC hi4, c_t2 hC hi4, c_t3 hC hi4, c_t4 hC hi4, c_t5 hC hi4, c_t6 hC hi4, c_t7 hC hi4, res]
  by_cases c : s.1 i 16 = 0
  · rw [if_pos c, if_pos c]
    by_cases h7 : s.1 i 13 = 7
    · rw [if_pos h7, if_pos h7]
      exact ⟨_, rfl, rg7 _⟩
    · rw [if_neg h7, if_neg h7]
      by_cases h6 : s.1 i 13 = 6
      · obtain ⟨a, ha, ea⟩ := (hI.O hi).2.2 h6
        obtain ⟨y, y1, y2⟩ := e_numbersIn (N := N) (h := h) hN hC hI ha
        rw [if_pos h6, if_pos h6, ea]
        simp only [y1, Option.bind_some, bRT, bRW, bWW, bW, le0, ne10, if_true, if_false, not_true_eq_false, not_false_eq_true, uI_at, uA_1, uB_1, uG_1, uI_2, e_sum hN hC hI y2]
        refine ⟨_, rfl, ?_⟩
        cases es : smF s (nI a) s.2.2.2 0 0 with
        | none => exact rg_min
        | some v =>
          have := smF_rng _ _ _ _ 0 (by omega) es
          exact rg_of (by omega)
      · have ht := two_of hI hi hF h7 h6
        obtain ⟨a, b, ha, hb, ea, eb, ka, kb⟩ := (hI.O hi).2.1 ht
        obtain ⟨fa, hfa, efa, kfa⟩ := hI.f ha
        obtain ⟨fb, hfb, efb, kfb⟩ := hI.f hb
        rw [if_neg h6, if_neg h6]
        have oa : opn s i 14 = fa := by unfold opn; rw [ea, nI_clamp (by omega), efa, nI_clamp (by omega)]
        have ob : opn s i 15 = fb := by unfold opn; rw [eb, nI_clamp (by omega), efb, nI_clamp (by omega)]
        rw [oa, ob, ea, eb]
        simp only [e_tm hC ha hfa efa, e_tm hC hb hfb efb, Option.bind_some, bRT, bRW, bWW, bW, le0, ne10, if_true, if_false, not_true_eq_false, not_false_eq_true, uI_at, uA_1, uB_1, uG_1, uI_2, e_amount hN hC hI hfa (by rw [kfa]; exact ka), e_amount hN hC hI hfb (by rw [kfb]; exact kb)]
        cases va : amF s fa with
        | none => exact ⟨_, by rw [show encC none = (-9223372036854775808 : Int64) from rfl, if_pos rfl], rg_min⟩
        | some x =>
          have hx := amF_rng va
          rw [show encC (some x) = Int64.ofInt x from rfl, if_neg (encC_n hx)]
          cases vb : amF s fb with
          | none => exact ⟨_, by rw [show encC none = (-9223372036854775808 : Int64) from rfl, if_pos rfl], rg_min⟩
          | some y =>
            have hy := amF_rng vb
            rw [show encC (some y) = Int64.ofInt y from rfl, if_neg (encC_n hy)]
            obtain ⟨r, r1, r2⟩ := e_combine (N := N) (f := HH h σ) ht hx hy
            exact ⟨r, by simp only [r1, Option.bind_some, bRT, bRW, bWW, bW, le0, ne10, if_true, if_false, not_true_eq_false, not_false_eq_true, uI_at, uA_1, uB_1, uG_1, uI_2], r2⟩
  · rw [if_neg c, if_neg c]
    exact ⟨_, rfl, rg_min⟩
theorem f_result {N h : Nat} (hN : 10000 ≤ N) {σ : SG} {s : AS} (hM : RM σ s) (hI : Inv s) (hl : ∀ q, q < 40 → (s.2.2.1 q 0).length ≤ 30) {i : Nat} (hi : i < s.2.2.2) (hF : isF s i) : ∃ x, DX10_result N (h + 275) (nI i) (HH h σ) = some x ∧ rg x = res s i ∧ okx x := by
  have hn := hI.n40
  simp only [DX10_result, r_ck, r_0, r_1, r_2, r_3, r_4, r_5, r_6, r_7, r_8, r_9, r_10, r_11, r_12, r_13, r_14, r_15, r_16, r_17, r_18, r_19, r_20, r_21, r_22, r_23, r_24, r_25, r_26, r_27, r_28, r_29, r_30, r_31, r_32, r_33, r_34, r_35, r_36, r_37, rp_0, rp_1, rp_26, rp_28, rp_30, rp_33, rp_35, rp_37, Option.bind_some, bRT, bRW, bWW, bW, le0, ne10, if_true, if_false, not_true_eq_false, not_false_eq_true, uI_at, uA_1, uB_1, uG_1, uI_2, m_kind hM hn hi, m_par hM hn hi, m_name hM hn hi, m_fst hM hn hi, m_wid hM hn hi, m_hei hM hn hi, m_lea hM hn hi, m_mos hM hn hi, m_op hM hn hi, m_sid hM hn hi, m_flat hM hn hi, m_lock hM hn hi, m_failing hM hn hi, m_many hM hn hi, m_opts hM hn hi, m_set0 hM hn hi, m_set1 hM hn hi, m_set2 hM hn hi, m_set3 hM hn hi, m_set4 hM hn hi, res]
  by_cases c : s.1 i 16 = 0
  · rw [if_pos c, if_pos c]
    by_cases h7 : s.1 i 13 = 7
    · rw [if_pos h7, if_pos h7]
      simp only [m_a67 hM hn hi (Or.inr h7), Option.bind_some, bRT, bRW, bWW, bW, le0, ne10, if_true, if_false, not_true_eq_false, not_false_eq_true, uI_at, uA_1, uB_1, uG_1, uI_2]
      exact ⟨_, rfl, rg7 _, okx_7 _⟩
    · rw [if_neg h7, if_neg h7]
      by_cases h6 : s.1 i 13 = 6
      · obtain ⟨a, ha, ea⟩ := (hI.O hi).2.2 h6
        rw [if_pos h6, if_pos h6]
        simp only [m_a67 hM hn hi (Or.inl h6), Option.bind_some, bRT, bRW, bWW, bW, le0, ne10, if_true, if_false, not_true_eq_false, not_false_eq_true, uI_at, uA_1, uB_1, uG_1, uI_2, ea, f_group hN hM hI hl ha]
        refine ⟨_, rfl, ?_⟩
        cases es : smF s (nI a) s.2.2.2 0 0 with
        | none => exact ⟨rg_no, okx_no⟩
        | some v =>
          have := smF_rng _ _ _ _ 0 (by omega) es
          exact ⟨rg_of (by omega), okx_of (by omega)⟩
      · have ht := two_of hI hi hF h7 h6
        obtain ⟨a, b, ha, hb, ea, eb, ka, kb⟩ := (hI.O hi).2.1 ht
        obtain ⟨fa, hfa, efa, kfa⟩ := hI.f ha
        obtain ⟨fb, hfb, efb, kfb⟩ := hI.f hb
        rw [if_neg h6, if_neg h6]
        have oa : opn s i 14 = fa := by unfold opn; rw [ea, nI_clamp (by omega), efa, nI_clamp (by omega)]
        have ob : opn s i 15 = fb := by unfold opn; rw [eb, nI_clamp (by omega), efb, nI_clamp (by omega)]
        rw [oa, ob]
        simp only [m_a2 hM hn hi ht, m_b2 hM hn hi ht, Option.bind_some, bRT, bRW, bWW, bW, le0, ne10, if_true, if_false, not_true_eq_false, not_false_eq_true, uI_at, uA_1, uB_1, uG_1, uI_2, ea, eb, nI_clamp (show a < 2 ^ 31 by omega), nI_clamp (show b < 2 ^ 31 by omega), efa, efb, f_amountF hN hM hI hfa (hl fa (by omega)), f_amountF hN hM hI hfb (hl fb (by omega))]
        cases va : amF s fa with
        | none => exact ⟨_, by rw [show encM none = (9000000000000000000 : Int64) from rfl, if_pos rfl], rg_no, okx_no⟩
        | some x =>
          have hx := amF_rng va
          rw [show encM (some x) = Int64.ofInt x from rfl, if_neg (encM_n hx)]
          cases vb : amF s fb with
          | none => exact ⟨_, by rw [show encM none = (9000000000000000000 : Int64) from rfl, if_pos rfl], rg_no, okx_no⟩
          | some y =>
            have hy := amF_rng vb
            rw [show encM (some y) = Int64.ofInt y from rfl, if_neg (encM_n hy)]
            by_cases h3 : s.1 i 13 = 3
            · rw [if_pos h3]
              by_cases z : y = 0
              · subst z
                refine ⟨_, by rw [if_pos (show Int64.ofInt 0 = (0 : Int64) from rfl)], ?_, okx_no⟩
                rw [rg_no, h3]
                simp [cmb]
              · have z0 : ¬ Int64.ofInt y = (0 : Int64) := fun e => z ((eqV (b := 0) (by omega) (by omega)).mp e)
                rw [if_neg z0]
                exact f_r107 ht hx hy (fun _ => z)
            · rw [if_neg h3]
              exact f_r107 ht hx hy (fun q => absurd q h3)
  · rw [if_neg c, if_neg c]
    exact ⟨_, rfl, rg_no, okx_no⟩
