/-! value -/
abbrev nsg (c : Int32) : Prop := (¬ c < (48 : Int32) ∧ c ≤ (57 : Int32)) ∨ c = (45 : Int32) ∨ c = (46 : Int32)
abbrev sgn (s : AS) (m : Nat) (c : Int32) : Prop := (s.1 m 1 = 5 ∧ nsg c) ∨ (s.1 m 1 = 1 ∧ ¬ c < (32 : Int32) ∧ ¬ (126 : Int32) < c)
abbrev mbn (s : AS) (m : Nat) : Prop := s.1 m 1 = 4 ∨ (s.1 m 1 = 3 ∧ (s.1 m 22 = 1 ∨ s.1 m 10 = -1))
def rm (s : AS) (m : Nat) : Int32 := if s.1 m 1 = 5 then 14 else if s.1 m 21 ≤ 0 then 30 else s.1 m 21
abbrev has (l : List Int32) (c : Int32) : Prop := ¬ c < 0 ∧ ¬ nI l.length ≤ c
theorem ns_eq (c : Int32) : (if c < (48 : Int32) then (if c = (45 : Int32) then some (1 : Int32) else if c = (46 : Int32) then some 1 else some 0) else if c ≤ (57 : Int32) then some 1 else (if c = (45 : Int32) then some 1 else if c = (46 : Int32) then some 1 else some 0)) = some (if nsg c then 1 else 0) := by
  by_cases a : c < (48 : Int32) <;> by_cases b : c ≤ (57 : Int32) <;> by_cases d : c = (45 : Int32) <;> by_cases e : c = (46 : Int32) <;> simp [nsg, a, b, d, e]
theorem e_isSign {N h : Nat} {σ : SG} {s : AS} (hC : RC σ s) {m : Nat} (hm4 : m < 40) (c : Int32) : DX2_isSign N (h + (3 + 6 * m)) c (HH h σ) = some (if sgn s m c then 1 else 0) := by
  simp only [DX2_isSign, DX2_isSign_20, Option.bind_some, bRT, bRW, bWW, bW, le0, ne10, if_true, if_false, not_true_eq_false, not_false_eq_true, uI_at, uA_1, uB_1, uG_1, uI_2, k1 hm4, g7 hm4, g8 hm4, g9 hm4, c_0 hC hm4, c_1 hC hm4, c_2 hC hm4, c_3 hC hm4, c_4 hC hm4, c_5 hC hm4, c_6 hC hm4, c_10 hC hm4, c_11 hC hm4, c_12 hC hm4, c_13 hC hm4, c_14 hC hm4, c_15 hC hm4, c_16 hC hm4, c_t0 hC hm4, c_t1 hC hm4, c_t2 hC hm4, c_t3 hC hm4, c_t4 hC hm4, c_t5 hC hm4, c_t6 hC hm4, c_t7 hC hm4, ns_eq]
  by_cases k5 : s.1 m 1 = 5
  · simp [sgn, k5]
  · by_cases k1 : s.1 m 1 = 1
    · by_cases a : c < (32 : Int32) <;> by_cases b : (126 : Int32) < c <;> simp [sgn, k1, a, b]
    · simp [sgn, k1, k5]
theorem e_hasSigns {N h : Nat} {σ : SG} {s : AS} (hC : RC σ s) {m : Nat} (hm4 : m < 40) : DX2_hasSigns N (h + (3 + 6 * m)) (HH h σ) = some (if s.1 m 1 = 1 ∨ s.1 m 1 = 5 then 1 else 0) := by
  simp only [DX2_hasSigns, Option.bind_some, bRT, bRW, bWW, bW, le0, ne10, if_true, if_false, not_true_eq_false, not_false_eq_true, uI_at, uA_1, uB_1, uG_1, uI_2, k1 hm4, g7 hm4, g8 hm4, g9 hm4, c_0 hC hm4, c_1 hC hm4, c_2 hC hm4, c_3 hC hm4, c_4 hC hm4, c_5 hC hm4, c_6 hC hm4, c_10 hC hm4, c_11 hC hm4, c_12 hC hm4, c_13 hC hm4, c_14 hC hm4, c_15 hC hm4, c_16 hC hm4, c_t0 hC hm4, c_t1 hC hm4, c_t2 hC hm4, c_t3 hC hm4, c_t4 hC hm4, c_t5 hC hm4, c_t6 hC hm4, c_t7 hC hm4]
  by_cases k1 : s.1 m 1 = 1 <;> by_cases k5 : s.1 m 1 = 5 <;> simp [k1, k5]
theorem e_hasOptions {N h : Nat} {σ : SG} {s : AS} (hC : RC σ s) {m : Nat} (hm4 : m < 40) : DX2_hasOptions N (h + (3 + 6 * m)) (HH h σ) = some (if s.1 m 1 = 3 ∨ s.1 m 1 = 4 then 1 else 0) := by
  simp only [DX2_hasOptions, Option.bind_some, bRT, bRW, bWW, bW, le0, ne10, if_true, if_false, not_true_eq_false, not_false_eq_true, uI_at, uA_1, uB_1, uG_1, uI_2, k1 hm4, g7 hm4, g8 hm4, g9 hm4, c_0 hC hm4, c_1 hC hm4, c_2 hC hm4, c_3 hC hm4, c_4 hC hm4, c_5 hC hm4, c_6 hC hm4, c_10 hC hm4, c_11 hC hm4, c_12 hC hm4, c_13 hC hm4, c_14 hC hm4, c_15 hC hm4, c_16 hC hm4, c_t0 hC hm4, c_t1 hC hm4, c_t2 hC hm4, c_t3 hC hm4, c_t4 hC hm4, c_t5 hC hm4, c_t6 hC hm4, c_t7 hC hm4]
  by_cases k1 : s.1 m 1 = 3 <;> by_cases k5 : s.1 m 1 = 4 <;> simp [k1, k5]
theorem e_mayBeNone {N h : Nat} {σ : SG} {s : AS} (hC : RC σ s) {m : Nat} (hm4 : m < 40) : DX2_mayBeNone N (h + (3 + 6 * m)) (HH h σ) = some (if mbn s m then 1 else 0) := by
  simp only [DX2_mayBeNone, Option.bind_some, bRT, bRW, bWW, bW, le0, ne10, if_true, if_false, not_true_eq_false, not_false_eq_true, uI_at, uA_1, uB_1, uG_1, uI_2, k1 hm4, g7 hm4, g8 hm4, g9 hm4, c_0 hC hm4, c_1 hC hm4, c_2 hC hm4, c_3 hC hm4, c_4 hC hm4, c_5 hC hm4, c_6 hC hm4, c_10 hC hm4, c_11 hC hm4, c_12 hC hm4, c_13 hC hm4, c_14 hC hm4, c_15 hC hm4, c_16 hC hm4, c_t0 hC hm4, c_t1 hC hm4, c_t2 hC hm4, c_t3 hC hm4, c_t4 hC hm4, c_t5 hC hm4, c_t6 hC hm4, c_t7 hC hm4]
  by_cases k4 : s.1 m 1 = 4 <;> by_cases k3 : s.1 m 1 = 3 <;> by_cases a : s.1 m 22 = 1 <;> by_cases b : s.1 m 10 = -1 <;> simp [mbn, k4, k3, a, b]
theorem e_room {N h : Nat} {σ : SG} {s : AS} (hC : RC σ s) {m : Nat} (hm4 : m < 40) : DX2_room N (h + (3 + 6 * m)) (HH h σ) = some (rm s m) := by
  simp only [DX2_room, Option.bind_some, bRT, bRW, bWW, bW, le0, ne10, if_true, if_false, not_true_eq_false, not_false_eq_true, uI_at, uA_1, uB_1, uG_1, uI_2, k1 hm4, g7 hm4, g8 hm4, g9 hm4, c_0 hC hm4, c_1 hC hm4, c_2 hC hm4, c_3 hC hm4, c_4 hC hm4, c_5 hC hm4, c_6 hC hm4, c_10 hC hm4, c_11 hC hm4, c_12 hC hm4, c_13 hC hm4, c_14 hC hm4, c_15 hC hm4, c_16 hC hm4, c_t0 hC hm4, c_t1 hC hm4, c_t2 hC hm4, c_t3 hC hm4, c_t4 hC hm4, c_t5 hC hm4, c_t6 hC hm4, c_t7 hC hm4, rm]
  by_cases k4 : s.1 m 1 = 5 <;> by_cases k3 : s.1 m 21 ≤ 0 <;> simp [k4, k3]
abbrev gd (s : AS) (m : Nat) (c : Int32) : Prop :=
  ((s.1 m 1 = 1 ∨ s.1 m 1 = 5) ∧ (c = -1 ∨ sgn s m c)) ∨ (s.1 m 1 = 2 ∧ (c = 0 ∨ c = 1)) ∨ ((s.1 m 1 = 3 ∨ s.1 m 1 = 4) ∧ ((c = -1 ∧ mbn s m) ∨ (c ≠ -1 ∧ has (s.2.2.1 m 1) c)))
theorem e_couldTake {N h : Nat} {σ : SG} {s : AS} (hC : RC σ s) {m : Nat} (hm4 : m < 40) (c : Int32) : DX2_couldTake N (h + (3 + 6 * m)) c (HH h σ) = some (if gd s m c then 1 else 0) := by
  simp only [DX2_couldTake, DX2_isFlag, Option.bind_some, bRT, bRW, bWW, bW, le0, ne10, if_true, if_false, not_true_eq_false, not_false_eq_true, uI_at, uA_1, uB_1, uG_1, uI_2, k1 hm4, g9 hm4, c_1 hC hm4, e_hasSigns hC hm4, e_hasOptions hC hm4, e_mayBeNone hC hm4, e_isSign hC hm4, e_hasL (hC.cd hm4), ite01, ite0or2]
  by_cases a : s.1 m 1 = 1 ∨ s.1 m 1 = 5
  · have n2 : ¬ s.1 m 1 = 2 := by rcases a with a | a <;> rw [a] <;> decide
    have n3 : ¬ (s.1 m 1 = 3 ∨ s.1 m 1 = 4) := by rcases a with a | a <;> rw [a] <;> decide
    rw [if_neg (fun q => q a)]
    by_cases b : c = -1
    · simp only [gd, a, b, true_or, true_and, if_true]
    · by_cases d : sgn s m c
      · simp only [gd, a, b, d, n2, n3, false_and, or_false, false_or, true_and, not_true_eq_false, if_false, if_true]
      · simp only [gd, a, b, d, n2, n3, false_and, or_false, false_or, true_and, not_false_eq_true, if_false, if_true]
  · rw [if_pos a]
    by_cases b : s.1 m 1 = 3 ∨ s.1 m 1 = 4
    · have n2 : ¬ s.1 m 1 = 2 := by rcases b with a | a <;> rw [a] <;> decide
      rw [if_neg (fun q => q b)]
      by_cases d : c = -1
      · simp only [gd, a, b, d, n2, false_and, or_false, false_or, true_and, ne_eq, not_true_eq_false, if_true]
      · simp only [gd, a, b, d, n2, false_and, or_false, false_or, true_and, ne_eq, not_false_eq_true, if_false, if_true]
    · rw [if_pos b]
      by_cases d : s.1 m 1 = 2
      · by_cases e : c = 0 <;> by_cases e1 : c = 1 <;> simp [gd, a, b, d, e, e1]
      · simp only [gd, a, b, d, false_and, or_false, if_false]
/-! the reference's side -/
theorem f_isSign {N h : Nat} {σ : SG} {s : AS} (hM : RM σ s) (hn : s.2.2.2 ≤ 40) {m : Nat} (hm : m < s.2.2.2) (hk : s.1 m 1 = 1 ∨ s.1 m 1 = 5) (c : Int32) : DX10_isSign N (h + 275) (nI m) c (HH h σ) = some (if sgn s m c then 1 else 0) := by
  simp only [DX10_isSign, DX10_isNumberSign, DX10_isNumberSign_12, r_ck, r_0, r_1, r_2, r_3, r_4, r_5, r_6, r_7, r_8, r_9, r_10, r_11, r_12, r_13, r_14, r_15, r_16, r_17, r_18, r_19, r_20, r_21, r_22, r_23, r_24, r_25, r_26, r_27, r_28, r_29, r_30, r_31, r_32, r_33, r_34, r_35, r_36, r_37, rp_0, rp_1, rp_26, rp_28, rp_30, rp_33, rp_35, rp_37, Option.bind_some, bRT, bRW, bWW, bW, le0, ne10, if_true, if_false, not_true_eq_false, not_false_eq_true, uI_at, uA_1, uB_1, uG_1, uI_2, m_kind hM hn hm, ns_eq, show (32 : Int64) = (32 : Int32).toInt64 from rfl, show (126 : Int64) = (126 : Int32).toInt64 from rfl, ii_eq, ite0or]
  by_cases k1 : s.1 m 1 = 1
  · simp [sgn, k1]
  · have k5 := hk.resolve_left k1
    simp [sgn, k5]
theorem f_isSigned {N h : Nat} {σ : SG} {s : AS} (hM : RM σ s) (hn : s.2.2.2 ≤ 40) {m : Nat} (hm : m < s.2.2.2) : DX10_isSigned N (h + 275) (nI m) (HH h σ) = some (if s.1 m 1 = 1 ∨ s.1 m 1 = 5 then 1 else 0) := by
  simp only [DX10_isSigned, r_ck, r_0, r_1, r_2, r_3, r_4, r_5, r_6, r_7, r_8, r_9, r_10, r_11, r_12, r_13, r_14, r_15, r_16, r_17, r_18, r_19, r_20, r_21, r_22, r_23, r_24, r_25, r_26, r_27, r_28, r_29, r_30, r_31, r_32, r_33, r_34, r_35, r_36, r_37, rp_0, rp_1, rp_26, rp_28, rp_30, rp_33, rp_35, rp_37, Option.bind_some, bRT, bRW, bWW, bW, le0, ne10, if_true, if_false, not_true_eq_false, not_false_eq_true, uI_at, uA_1, uB_1, uG_1, uI_2, m_kind hM hn hm]
  by_cases k1 : s.1 m 1 = 1 <;> by_cases k5 : s.1 m 1 = 5 <;> simp [k1, k5]
theorem f_isPicked {N h : Nat} {σ : SG} {s : AS} (hM : RM σ s) (hn : s.2.2.2 ≤ 40) {m : Nat} (hm : m < s.2.2.2) : DX10_isPicked N (h + 275) (nI m) (HH h σ) = some (if s.1 m 1 = 3 ∨ s.1 m 1 = 4 then 1 else 0) := by
  simp only [DX10_isPicked, r_ck, r_0, r_1, r_2, r_3, r_4, r_5, r_6, r_7, r_8, r_9, r_10, r_11, r_12, r_13, r_14, r_15, r_16, r_17, r_18, r_19, r_20, r_21, r_22, r_23, r_24, r_25, r_26, r_27, r_28, r_29, r_30, r_31, r_32, r_33, r_34, r_35, r_36, r_37, rp_0, rp_1, rp_26, rp_28, rp_30, rp_33, rp_35, rp_37, Option.bind_some, bRT, bRW, bWW, bW, le0, ne10, if_true, if_false, not_true_eq_false, not_false_eq_true, uI_at, uA_1, uB_1, uG_1, uI_2, m_kind hM hn hm]
  by_cases k1 : s.1 m 1 = 3 <;> by_cases k5 : s.1 m 1 = 4 <;> simp [k1, k5]
theorem f_most {N h : Nat} {σ : SG} {s : AS} (hM : RM σ s) (hn : s.2.2.2 ≤ 40) {m : Nat} (hm : m < s.2.2.2) : DX10_most N (h + 275) (nI m) (HH h σ) = some (rm s m) := by
  simp only [DX10_most, r_ck, r_0, r_1, r_2, r_3, r_4, r_5, r_6, r_7, r_8, r_9, r_10, r_11, r_12, r_13, r_14, r_15, r_16, r_17, r_18, r_19, r_20, r_21, r_22, r_23, r_24, r_25, r_26, r_27, r_28, r_29, r_30, r_31, r_32, r_33, r_34, r_35, r_36, r_37, rp_0, rp_1, rp_26, rp_28, rp_30, rp_33, rp_35, rp_37, Option.bind_some, bRT, bRW, bWW, bW, le0, ne10, if_true, if_false, not_true_eq_false, not_false_eq_true, uI_at, uA_1, uB_1, uG_1, uI_2, m_kind hM hn hm, m_par hM hn hm, m_name hM hn hm, m_fst hM hn hm, m_wid hM hn hm, m_hei hM hn hm, m_lea hM hn hm, m_mos hM hn hm, m_op hM hn hm, m_sid hM hn hm, m_flat hM hn hm, m_lock hM hn hm, m_failing hM hn hm, m_many hM hn hm, m_opts hM hn hm, m_set0 hM hn hm, m_set1 hM hn hm, m_set2 hM hn hm, m_set3 hM hn hm, m_set4 hM hn hm, rm]
  by_cases k4 : s.1 m 1 = 5 <;> by_cases k3 : s.1 m 21 ≤ 0 <;> simp [k4, k3]
theorem f_mayPick {N h : Nat} {σ : SG} {s : AS} (hM : RM σ s) (hn : s.2.2.2 ≤ 40) {m : Nat} (hm : m < s.2.2.2) (hk : s.1 m 1 = 3 ∨ s.1 m 1 = 4) (hl : (s.2.2.1 m 1).length ≤ 12) (c : Int32) : DX10_mayPick N (h + 275) (nI m) c (HH h σ) = some (if (c = -1 ∧ mbn s m) ∨ (c ≠ -1 ∧ has (s.2.2.1 m 1) c) then 1 else 0) := by
  have hp : pk (s.1 m 1) := by rcases hk with a | a <;> rw [a] <;> simp [pk]
  simp only [DX10_mayPick, r_ck, r_0, r_1, r_2, r_3, r_4, r_5, r_6, r_7, r_8, r_9, r_10, r_11, r_12, r_13, r_14, r_15, r_16, r_17, r_18, r_19, r_20, r_21, r_22, r_23, r_24, r_25, r_26, r_27, r_28, r_29, r_30, r_31, r_32, r_33, r_34, r_35, r_36, r_37, rp_0, rp_1, rp_26, rp_28, rp_30, rp_33, rp_35, rp_37, Option.bind_some, bRT, bRW, bWW, bW, le0, ne10, if_true, if_false, not_true_eq_false, not_false_eq_true, uI_at, uA_1, uB_1, uG_1, uI_2, m_kind hM hn hm, m_par hM hn hm, m_name hM hn hm, m_fst hM hn hm, m_wid hM hn hm, m_hei hM hn hm, m_lea hM hn hm, m_mos hM hn hm, m_op hM hn hm, m_sid hM hn hm, m_flat hM hn hm, m_lock hM hn hm, m_failing hM hn hm, m_many hM hn hm, m_opts hM hn hm, m_set0 hM hn hm, m_set1 hM hn hm, m_set2 hM hn hm, m_set3 hM hn hm, m_set4 hM hn hm, m_pick hM hn hm hp, show (0 : Int64) = (0 : Int32).toInt64 from rfl, ii_len _ _ (show (s.2.2.1 m 1).length ≤ 8000 by omega), ite0or]
  by_cases d : c = -1
  · by_cases k4 : s.1 m 1 = 4
    · simp [d, k4, mbn]
    · have k3 := hk.resolve_right k4
      by_cases a : s.1 m 22 = 1 <;> by_cases b : s.1 m 10 = -1 <;> simp [d, k3, mbn, a, b]
  · simp [d, has]
theorem f_good {N h : Nat} {σ : SG} {s : AS} (hM : RM σ s) (hn : s.2.2.2 ≤ 40) {i m : Nat} (hi : i < s.2.2.2) (hm : m < s.2.2.2) (e : s.1 i 4 = nI m) (hl : (s.2.2.1 m 1).length ≤ 12) (c : Int32) : DX10_value_14 N (h + 275) (nI i) c (h + 275) 0 (HH h σ) = DX10_value_112 N (h + 275) (nI i) c (nI m) (if gd s m c then 1 else 0) (HH h (uI σ 275 0 0)) := by
  have hM0 := hM.thr 0
  simp only [DX10_value_14, DX10_value_55, DX10_value_82, DX10_value_111, r_ck, r_0, r_1, r_2, r_3, r_4, r_5, r_6, r_7, r_8, r_9, r_10, r_11, r_12, r_13, r_14, r_15, r_16, r_17, r_18, r_19, r_20, r_21, r_22, r_23, r_24, r_25, r_26, r_27, r_28, r_29, r_30, r_31, r_32, r_33, r_34, r_35, r_36, r_37, rp_0, rp_1, rp_26, rp_28, rp_30, rp_33, rp_35, rp_37, Option.bind_some, bRT, bRW, bWW, bW, le0, ne10, if_true, if_false, not_true_eq_false, not_false_eq_true, uI_at, uA_1, uB_1, uG_1, uI_2, m_fst hM0 hn hi, e, f_isSigned hM0 hn hm, f_isPicked hM0 hn hm, m_kind hM0 hn hm, ite01]
  by_cases a : s.1 m 1 = 1 ∨ s.1 m 1 = 5
  · have n2 : ¬ s.1 m 1 = 2 := by rcases a with a | a <;> rw [a] <;> decide
    have n3 : ¬ (s.1 m 1 = 3 ∨ s.1 m 1 = 4) := by rcases a with a | a <;> rw [a] <;> decide
    rw [if_neg (fun q => q a)]
    by_cases b : c = -1
    · simp only [gd, a, b, true_or, true_and, if_true]
    · simp only [f_isSign hM0 hn hm a, Option.bind_some, bRT, bRW, bWW, bW, le0, ne10, if_true, if_false, not_true_eq_false, not_false_eq_true, uI_at, uA_1, uB_1, uG_1, uI_2, ite01]
      by_cases d : sgn s m c
      · simp only [gd, a, b, d, n2, n3, false_and, or_false, false_or, true_and, not_true_eq_false, if_false, if_true]
      · simp only [gd, a, b, d, n2, n3, false_and, or_false, false_or, true_and, not_false_eq_true, if_false, if_true]
  · rw [if_pos a]
    by_cases b : s.1 m 1 = 3 ∨ s.1 m 1 = 4
    · have n2 : ¬ s.1 m 1 = 2 := by rcases b with a | a <;> rw [a] <;> decide
      rw [if_neg n2, if_neg (fun q => q b)]
      simp only [f_mayPick hM0 hn hm b hl, Option.bind_some, bRT, bRW, bWW, bW, le0, ne10, if_true, if_false, not_true_eq_false, not_false_eq_true, uI_at, uA_1, uB_1, uG_1, uI_2, ite01]
      by_cases d : (c = -1 ∧ mbn s m) ∨ (c ≠ -1 ∧ has (s.2.2.1 m 1) c)
      · rw [if_neg (fun q => q d), if_pos (Or.inr (Or.inr ⟨b, d⟩))]
      · rw [if_pos d, if_neg (fun q => by rcases q with q | q | q
                                          · exact a q.1
                                          · exact n2 q.1
                                          · exact d q.2)]
    · by_cases d : s.1 m 1 = 2
      · by_cases e : c = 0 <;> by_cases e1 : c = 1 <;> simp [gd, a, b, d, e, e1]
      · simp only [gd, a, b, d, false_and, or_false, if_false, not_false_eq_true, if_true]
theorem Inv.sg {s : AS} {m : Nat} {l : List Int32} (h : Inv s) (hm : m < s.2.2.2) (hl : s.1 m 1 = 5 → l.length ≤ 14) : Inv (sQ s m 0 l) := by
  refine h.one hm rfl (fun q j' hj' => rfl) (fun q hq _ => ⟨rfl, rfl, by funext j'; simp [sQ, hq]⟩) ?_ (h.O hm) (h.side hm)
  obtain ⟨a, b, c, d, e, f, g⟩ := h.V hm
  exact ⟨a, b, c, fun k => by simpa [sQ] using hl k, e, by simpa [sQ] using f, by simpa [sQ] using g⟩
theorem Inv.pick {s : AS} {m : Nat} {c : Int32} (h : Inv s) (hm : m < s.2.2.2) (h2 : s.1 m 1 = 2 → c = 0 ∨ c = 1) (h3 : s.1 m 1 = 3 ∨ s.1 m 1 = 4 → c = -1 ∨ ∃ d, d < (s.2.2.1 m 1).length ∧ c = nI d) : Inv (sA s m 10 c) := by
  refine h.at1 hm (by omega) ?_ ((h.O hm).at1 (by omega)) (fun q => absurd q (by omega))
  obtain ⟨a, b, d, e, f, g, i⟩ := h.V hm
  exact ⟨by simpa [sA] using a, by simpa [sA] using b, by simpa [sA] using d, by simpa [sA] using e, by simpa [sA] using h2, by simpa [sA] using h3, i⟩
theorem has_ix {l : List Int32} {c : Int32} (h : has l c) (hl : l.length ≤ 8000) : ∃ d, d < l.length ∧ c = nI d := by
  obtain ⟨j, hj, e⟩ := nI_of h.1
  refine ⟨j, ?_, e⟩
  rcases Nat.lt_or_ge j l.length with q | q
  · exact q
  · exact absurd (nI_le q hj) (by rw [← e]; exact h.2)
theorem gd_nneg {s : AS} {m : Nat} {c : Int32} (hk : s.1 m 1 = 1 ∨ s.1 m 1 = 5) (h : gd s m c) : c = -1 ∨ ¬ c < 0 := by
  have n2 : ¬ s.1 m 1 = 2 := by rcases hk with a | a <;> rw [a] <;> decide
  have n3 : ¬ (s.1 m 1 = 3 ∨ s.1 m 1 = 4) := by rcases hk with a | a <;> rw [a] <;> decide
  rcases h with ⟨_, h | h⟩ | ⟨h, _⟩ | ⟨h, _⟩
  · exact Or.inl h
  · refine Or.inr (fun q => ?_)
    rw [Int32.lt_iff_toInt_lt, i0T] at q
    rcases h with ⟨_, ⟨h, _⟩ | h | h⟩ | ⟨_, h, _⟩
    · exact h (by rw [Int32.lt_iff_toInt_lt]; exact Int.lt_trans q (by decide))
    · rw [h] at q; exact absurd q (by decide)
    · rw [h] at q; exact absurd q (by decide)
    · exact h (by rw [Int32.lt_iff_toInt_lt]; exact Int.lt_trans q (by decide))
  · exact absurd h n2
  · exact absurd h n3
theorem rm_le {s : AS} {m : Nat} (h : Inv s) (hm : m < s.2.2.2) : ∃ d, d ≤ 30 ∧ rm s m = nI d ∧ (s.1 m 1 = 5 → d = 14) := by
  unfold rm
  by_cases a : s.1 m 1 = 5
  · exact ⟨14, by omega, by rw [if_pos a]; rfl, fun _ => rfl⟩
  · rw [if_neg a]
    by_cases b : s.1 m 21 ≤ 0
    · exact ⟨30, by omega, by rw [if_pos b]; rfl, fun q => absurd q a⟩
    · obtain ⟨d, hd, e⟩ := (h.V hm).2.1
      exact ⟨d, hd, by rw [if_neg b]; exact e, fun q => absurd q a⟩
theorem op_value {N h : Nat} {σ : SG} {s : AS} (hS : St σ s) (x c : Int32) : Out h σ s ex12 (DX9_value N h x c (HH h σ)) (fun σ' => DX10_value N (h + 275) x c (HH h σ')) := by
  obtain ⟨hC, hM, hI⟩ := hS
  have hn := hI.n40
  rcases ixc x hn with hx | ⟨i, hi, rfl⟩
  · refine Out.thr ⟨hC, hM, hI⟩ 1 (by omega) 0 ?_ (fun σ' hM' => ?_)
    · simp only [DX9_value, o_ck, o_0, o_1, o_2, o_3, o_4, o_5, o_6, t_ck, t_0, v_ck, v_0, q_ck, q_0, q_1, q_2, q_3, q_4, wr_ck, wr_0, wr_1, wr_2, rd_ck, rd_0, rd_1, Option.bind_some, bRT, bRW, bWW, bW, le0, ne10, if_true, if_false, not_true_eq_false, not_false_eq_true, uI_at, uA_1, uB_1, uG_1, uI_2, e_tg0 hC hx]
      rfl
    · simp only [DX10_value, DX10_value_14, r_ck, r_0, r_1, r_2, r_3, r_4, r_5, r_6, r_7, r_8, r_9, r_10, r_11, r_12, r_13, r_14, r_15, r_16, r_17, r_18, r_19, r_20, r_21, r_22, r_23, r_24, r_25, r_26, r_27, r_28, r_29, r_30, r_31, r_32, r_33, r_34, r_35, r_36, r_37, rp_0, rp_1, rp_26, rp_28, rp_30, rp_33, rp_35, rp_37, Option.bind_some, bRT, bRW, bWW, bW, le0, ne10, if_true, if_false, not_true_eq_false, not_false_eq_true, uI_at, uA_1, uB_1, uG_1, uI_2, e_no0 hM' hx, le1]
      rfl
  · obtain ⟨m, hm, e, ek⟩ := hI.f hi
    have hm4 : m < 40 := by omega
    have hi4 : i < 40 := by omega
    have hl := hC.len hm4
    have hlen : ∀ q, q < 40 → (s.2.2.1 q 0).length ≤ 30 ∧ (s.2.2.1 q 1).length ≤ 12 := fun q hq => hC.len hq
    have hR : ∀ σ', RM σ' s → DX10_value N (h + 275) (nI i) c (HH h σ') = DX10_value_112 N (h + 275) (nI i) c (nI m) (if gd s m c then 1 else 0) (HH h (uI σ' 275 0 0)) := fun σ' hM' => by
      simp only [DX10_value, r_ck, r_0, r_1, r_2, r_3, r_4, r_5, r_6, r_7, r_8, r_9, r_10, r_11, r_12, r_13, r_14, r_15, r_16, r_17, r_18, r_19, r_20, r_21, r_22, r_23, r_24, r_25, r_26, r_27, r_28, r_29, r_30, r_31, r_32, r_33, r_34, r_35, r_36, r_37, rp_0, rp_1, rp_26, rp_28, rp_30, rp_33, rp_35, rp_37, Option.bind_some, bRT, bRW, bWW, bW, le0, ne10, if_true, if_false, not_true_eq_false, not_false_eq_true, uI_at, uA_1, uB_1, uG_1, uI_2, e_no hM' hn hi, f_good hM' hn hi hm e hl.2 c]
    have u00 : ∀ (σ' : SG) (y : Int32), uI (uI σ' 275 0 0) 275 0 y = uI σ' 275 0 y := fun σ' y => by
      unfold uI
      congr 1
      funext k j
      by_cases q : k = 275 ∧ j = 0 <;> simp [q]
    by_cases hg : gd s m c
    · by_cases hf : s.1 m 6 = 0 ∧ s.1 i 5 = 0
      · have hR2 : ∀ σ', RM σ' s → DX10_value N (h + 275) (nI i) c (HH h σ') = (if s.1 m 1 = 1 ∨ s.1 m 1 = 5 then (if c < 0 then DX10_value_176 N (h + 275) c (nI m) (h + 275) (HH h (uI σ' 275 0 0)) else if nI (s.2.2.1 m 0).length < rm s m then DX10_value_176 N (h + 275) c (nI m) (h + 275) (HH h (uI σ' 275 0 0)) else DX10_value_177 N (h + 275) c (nI m) (h + 275) 4 (HH h (uI σ' 275 0 0))) else DX10_value_176 N (h + 275) c (nI m) (h + 275) (HH h (uI σ' 275 0 0))) := fun σ' hM' => by
          refine (hR σ' hM').trans ?_
          rw [if_pos hg]
          have hM0 := hM'.thr 0
          simp only [DX10_value_112, r_ck, r_0, r_1, r_2, r_3, r_4, r_5, r_6, r_7, r_8, r_9, r_10, r_11, r_12, r_13, r_14, r_15, r_16, r_17, r_18, r_19, r_20, r_21, r_22, r_23, r_24, r_25, r_26, r_27, r_28, r_29, r_30, r_31, r_32, r_33, r_34, r_35, r_36, r_37, rp_0, rp_1, rp_26, rp_28, rp_30, rp_33, rp_35, rp_37, Option.bind_some, bRT, bRW, bWW, bW, le0, ne10, if_true, if_false, not_true_eq_false, not_false_eq_true, uI_at, uA_1, uB_1, uG_1, uI_2, m_lock hM0 hn hm, hf.1, m_flat hM0 hn hi, hf.2, f_isSigned hM0 hn hm, ite01, m_many hM0 hn hm, f_most hM0 hn hm]
          by_cases a : s.1 m 1 = 1 ∨ s.1 m 1 = 5
          · rw [if_pos a, if_neg (fun q => q a)]
          · rw [if_neg a, if_pos a]
        by_cases a : s.1 m 1 = 1 ∨ s.1 m 1 = 5
        · by_cases b : c = -1
          · subst b
            refine ⟨sQ s m 0 [], uI σ (3 + 6 * m + 2) 1 0, .inl 0, ?_, hC.S hm4 (sbut.uI (by simp)) (rclear_ok (hC.sg hm4).1) (rclear_list _ _), hI.sg hm (fun _ => by simp), fc.I (by omega), fun σ' hM' => ⟨0, uA (uI σ' 275 0 0) 285 m 0, ?_, ?_, fm.I.tr (fm.A (by omega)), Or.inl ⟨rfl, by simp only [Option.bind_some, bRT, bRW, bWW, bW, le0, ne10, if_true, if_false, not_true_eq_false, not_false_eq_true, uI_at, uA_1, uB_1, uG_1, uI_2]⟩⟩⟩
            · simp only [DX9_value, o_ck, o_0, o_1, o_2, o_3, o_4, o_5, o_6, t_ck, t_0, v_ck, v_0, q_ck, q_0, q_1, q_2, q_3, q_4, wr_ck, wr_0, wr_1, wr_2, rd_ck, rd_0, rd_1, Option.bind_some, bRT, bRW, bWW, bW, le0, ne10, if_true, if_false, not_true_eq_false, not_false_eq_true, uI_at, uA_1, uB_1, uG_1, uI_2, e_tg hC hi, e_tm hC hi hm e, e_couldTake hC hm4, ite01, hg, c_6 hC hm4, c_5 hC hi4, hf.1, hf.2, e_hasSigns hC hm4, a, DX2_takeSign, k1 hm4, g8 hm4, e_clear (kd_S hm4)]
            · refine (hR2 σ' hM').trans ?_
              rw [if_pos a, if_pos (by decide)]
              simp only [DX10_value_176, DX10_value_177, DX10_value_247, r_ck, r_0, r_1, r_2, r_3, r_4, r_5, r_6, r_7, r_8, r_9, r_10, r_11, r_12, r_13, r_14, r_15, r_16, r_17, r_18, r_19, r_20, r_21, r_22, r_23, r_24, r_25, r_26, r_27, r_28, r_29, r_30, r_31, r_32, r_33, r_34, r_35, r_36, r_37, rp_0, rp_1, rp_26, rp_28, rp_30, rp_33, rp_35, rp_37, Option.bind_some, bRT, bRW, bWW, bW, le0, ne10, if_true, if_false, not_true_eq_false, not_false_eq_true, uI_at, uA_1, uB_1, uG_1, uI_2, f_isSigned (hM'.thr 0) hn hm, ite01, a, show ((0 : Int32) ≤ -1) = False from eq_false (by decide), sN0 (k := 285) rfl (show m < ln 285 from hm4), aN0 (k := 285) rfl (show m < ln 285 from hm4), uA_at, u00]
            · refine (hM'.thr 0).signs (τ := uA (uI σ' 275 0 0) 285 m 0) (l := []) hlen hn hm (fun _ _ _ => rfl) rfl (fun k _ _ _ _ _ _ _ _ => ?_) (fun c hc => ?_) (fun c hc => ?_) ?_ (fun j hj => absurd hj (by simp)) (fun k _ => ?_)
              · funext j; exact uA_ne _ _ _ _ (by omega)
              · exact uA_ne _ _ _ _ (by omega)
              · exact uA_ne _ _ _ _ (by omega)
              · rw [uA_at]; rfl
              · funext j; exact uA_ne _ _ _ _ (by omega)
          · have c0 : ¬ c < 0 := (gd_nneg a hg).resolve_left b
            have c0' : (0 : Int32) ≤ c := Int32.not_lt.mp c0
            have hrc := (hC.sg hm4).rc
            obtain ⟨d, hd, hd2, hd3⟩ := rm_le hI hm
            by_cases hrm : nI (s.2.2.1 m 0).length < rm s m
            · have hld : (s.2.2.1 m 0).length < d := by
                rw [hd2, nI_ltI (by omega) (by omega)] at hrm
                exact hrm
              have hlt : rc σ (3 + 6 * m + 2) < ln (3 + 6 * m + 2 + 1) := by rw [hrc, ln_S hm4]; omega
              refine ⟨sQ s m 0 (s.2.2.1 m 0 ++ [c]), rpush σ (3 + 6 * m + 2) c, .inl (nI ((s.2.2.1 m 0).length + 1)), ?_, hC.S hm4 (rpush_but _ _ _) (rpush_ok c (hC.sg hm4).1) (by rw [rpush_list hlt, (hC.sg hm4).2]), hI.sg hm (fun k => by have := hd3 k; simp; omega), fc.but (rpush_but _ _ _) (by simp; omega), fun σ' hM' => ⟨nI ((s.2.2.1 m 0).length + 1), uA (uA (uI σ' 275 0 0) 284 (30 * m + (s.2.2.1 m 0).length) c) 285 m (nI ((s.2.2.1 m 0).length + 1)), ?_, ?_, (fm.I.tr (fm.A (by omega))).tr (fm.A (by omega)), Or.inl ⟨rfl, by simp only [Option.bind_some, bRT, bRW, bWW, bW, le0, ne10, if_true, if_false, not_true_eq_false, not_false_eq_true, uI_at, uA_1, uB_1, uG_1, uI_2]⟩⟩⟩
              · have hR2 := hC.S hm4 (rpush_but σ (3 + 6 * m + 2) c) (rpush_ok c (hC.sg hm4).1) (l := s.2.2.1 m 0 ++ [c]) (by rw [rpush_list hlt, (hC.sg hm4).2])
                have hcn := e_cntL (N := N) (h := h) (hR2.sg hm4)
                have hq : (sQ s m 0 (s.2.2.1 m 0 ++ [c])).2.2.1 m 0 = s.2.2.1 m 0 ++ [c] := by simp [sQ]
                rw [hq, List.length_append] at hcn
                simp only [DX9_value, o_ck, o_0, o_1, o_2, o_3, o_4, o_5, o_6, t_ck, t_0, v_ck, v_0, q_ck, q_0, q_1, q_2, q_3, q_4, wr_ck, wr_0, wr_1, wr_2, rd_ck, rd_0, rd_1, Option.bind_some, bRT, bRW, bWW, bW, le0, ne10, if_true, if_false, not_true_eq_false, not_false_eq_true, uI_at, uA_1, uB_1, uG_1, uI_2, e_tg hC hi, e_tm hC hi hm e, e_couldTake hC hm4, ite01, hg, c_6 hC hm4, c_5 hC hi4, hf.1, hf.2, e_hasSigns hC hm4, a, DX2_takeSign, k1 hm4, g8 hm4, b, e_cntL (hC.sg hm4), e_room hC hm4, hrm, e_add (hC.sg hm4).1, hcn]
                rfl
              · refine (hR2 σ' hM').trans ?_
                rw [if_pos a, if_neg c0, if_pos hrm]
                have hM0 := hM'.thr 0
                simp only [DX10_value_176, DX10_value_177, DX10_value_247, r_ck, r_0, r_1, r_2, r_3, r_4, r_5, r_6, r_7, r_8, r_9, r_10, r_11, r_12, r_13, r_14, r_15, r_16, r_17, r_18, r_19, r_20, r_21, r_22, r_23, r_24, r_25, r_26, r_27, r_28, r_29, r_30, r_31, r_32, r_33, r_34, r_35, r_36, r_37, rp_0, rp_1, rp_26, rp_28, rp_30, rp_33, rp_35, rp_37, Option.bind_some, bRT, bRW, bWW, bW, le0, ne10, if_true, if_false, not_true_eq_false, not_false_eq_true, uI_at, uA_1, uB_1, uG_1, uI_2, f_isSigned hM0 hn hm, ite01, a, c0', m_many hM0 hn hm, n30, nI_add, sN0 (k := 284) rfl (show 30 * m + (s.2.2.1 m 0).length < ln 284 from show _ < 1200 by omega), aN0 (σ := uA (uI σ' 275 0 0) 284 (30 * m + (s.2.2.1 m 0).length) c) (k := 285) rfl (show m < ln 285 from hm4), u00]
                have e5 : (uA (uI σ' 275 0 0) 284 (30 * m + (s.2.2.1 m 0).length) c).2.2.1 285 m = nI (s.2.2.1 m 0).length := by
                  rw [uA_ne _ _ _ _ (by omega)]
                  exact ((hM'.thr 0).W hm4).2.2.1.1
                rw [e5, nI_1]
                simp only [sN0 (k := 285) rfl (show m < ln 285 from hm4), r_ck, r_0, r_1, r_2, r_3, r_4, r_5, r_6, r_7, r_8, r_9, r_10, r_11, r_12, r_13, r_14, r_15, r_16, r_17, r_18, r_19, r_20, r_21, r_22, r_23, r_24, r_25, r_26, r_27, r_28, r_29, r_30, r_31, r_32, r_33, r_34, r_35, r_36, r_37, rp_0, rp_1, rp_26, rp_28, rp_30, rp_33, rp_35, rp_37, Option.bind_some, bRT, bRW, bWW, bW, le0, ne10, if_true, if_false, not_true_eq_false, not_false_eq_true, uI_at, uA_1, uB_1, uG_1, uI_2, aN0 (k := 285) rfl (show m < ln 285 from hm4), uA_at]
              · refine (hM'.thr 0).signs (τ := uA (uA (uI σ' 275 0 0) 284 (30 * m + (s.2.2.1 m 0).length) c) 285 m (nI ((s.2.2.1 m 0).length + 1))) (l := s.2.2.1 m 0 ++ [c]) hlen hn hm (fun _ _ _ => rfl) rfl (fun k _ _ _ _ _ _ _ _ => ?_) (fun c hc => ?_) (fun c hc => ?_) ?_ (fun j hj => ?_) (fun k _ => ?_)
                · funext j; rw [uA_ne _ _ _ _ (by omega), uA_ne _ _ _ _ (by omega)]
                · rw [uA_ne _ _ _ _ (by omega), uA_ne _ _ _ _ (by omega)]
                · rw [uA_ne _ _ _ _ (by omega), uA_ne _ _ _ _ (by omega)]
                · rw [uA_at, List.length_append]; rfl
                · rw [uA_ne _ _ _ _ (by omega)]
                  rw [List.length_append] at hj
                  by_cases ej : j = (s.2.2.1 m 0).length
                  · rw [ej, uA_at, List.getD_eq_getElem?_getD, List.getElem?_append_right (Nat.le_refl _)]
                    simp
                  · have hj2 : j < (s.2.2.1 m 0).length := by simp at hj; omega
                    rw [uA_ne _ _ _ _ (by omega), List.getD_eq_getElem?_getD, List.getElem?_append_left hj2, ← List.getD_eq_getElem?_getD]
                    exact ((hM'.thr 0).W hm4).2.2.1.2 j hj2
                · funext j; rw [uA_ne _ _ _ _ (by omega), uA_ne _ _ _ _ (by omega)]
            · refine Out.thr ⟨hC, hM, hI⟩ 4 (by omega) 0 ?_ (fun σ' hM' => ?_)
              · simp only [DX9_value, o_ck, o_0, o_1, o_2, o_3, o_4, o_5, o_6, t_ck, t_0, v_ck, v_0, q_ck, q_0, q_1, q_2, q_3, q_4, wr_ck, wr_0, wr_1, wr_2, rd_ck, rd_0, rd_1, Option.bind_some, bRT, bRW, bWW, bW, le0, ne10, if_true, if_false, not_true_eq_false, not_false_eq_true, uI_at, uA_1, uB_1, uG_1, uI_2, e_tg hC hi, e_tm hC hi hm e, e_couldTake hC hm4, ite01, hg, c_6 hC hm4, c_5 hC hi4, hf.1, hf.2, e_hasSigns hC hm4, a, DX2_takeSign, k1 hm4, g8 hm4, b, e_cntL (hC.sg hm4), e_room hC hm4, hrm]
                rfl
              · refine (hR2 σ' hM').trans ?_
                rw [if_pos a, if_neg c0, if_neg hrm]
                simp only [DX10_value_177, r_ck, r_0, r_1, r_2, r_3, r_4, r_5, r_6, r_7, r_8, r_9, r_10, r_11, r_12, r_13, r_14, r_15, r_16, r_17, r_18, r_19, r_20, r_21, r_22, r_23, r_24, r_25, r_26, r_27, r_28, r_29, r_30, r_31, r_32, r_33, r_34, r_35, r_36, r_37, rp_0, rp_1, rp_26, rp_28, rp_30, rp_33, rp_35, rp_37, Option.bind_some, bRT, bRW, bWW, bW, le0, ne10, if_true, if_false, not_true_eq_false, not_false_eq_true, uI_at, uA_1, uB_1, uG_1, uI_2, le4, u00]
                rfl
        · have hp : pk (s.1 m 1) := by
            rcases hg with ⟨q, _⟩ | ⟨q, _⟩ | ⟨q | q, _⟩
            · exact absurd q a
            · exact Or.inl q
            · exact Or.inr (Or.inl q)
            · exact Or.inr (Or.inr q)
          refine ⟨sA s m 10 c, uI σ (3 + 6 * m) 10 c, .inl c, ?_, hC.I hm4 (by omega) c, hI.pick hm ?_ ?_, fc.I (by omega), fun σ' hM' => ⟨c, uA (uI σ' 275 0 0) 286 m c, ?_, (hM'.thr 0).pick hlen hn hm, fm.I.tr (fm.A (by omega)), Or.inl ⟨rfl, by simp only [Option.bind_some, bRT, bRW, bWW, bW, le0, ne10, if_true, if_false, not_true_eq_false, not_false_eq_true, uI_at, uA_1, uB_1, uG_1, uI_2]⟩⟩⟩
          · simp only [DX9_value, o_ck, o_0, o_1, o_2, o_3, o_4, o_5, o_6, t_ck, t_0, v_ck, v_0, q_ck, q_0, q_1, q_2, q_3, q_4, wr_ck, wr_0, wr_1, wr_2, rd_ck, rd_0, rd_1, Option.bind_some, bRT, bRW, bWW, bW, le0, ne10, if_true, if_false, not_true_eq_false, not_false_eq_true, uI_at, uA_1, uB_1, uG_1, uI_2, e_tg hC hi, e_tm hC hi hm e, e_couldTake hC hm4, ite01, hg, c_6 hC hm4, c_5 hC hi4, hf.1, hf.2, e_hasSigns hC hm4, a, DX2_pick, k1 hm4, p_1_10 (kd_F hm4)]
          · intro k2
            rcases hg with ⟨q, _⟩ | ⟨_, q⟩ | ⟨q | q, _⟩
            · exact absurd q a
            · exact q
            · rw [k2] at q; exact absurd q (by decide)
            · rw [k2] at q; exact absurd q (by decide)
          · intro k3
            rcases hg with ⟨q, _⟩ | ⟨q, _⟩ | ⟨_, q⟩
            · exact absurd q a
            · rw [q] at k3; exact absurd k3 (by decide)
            · rcases q with q | q
              · exact Or.inl q.1
              · exact Or.inr (has_ix q.2 (by omega))
          · refine (hR2 σ' hM').trans ?_
            rw [if_neg a]
            simp only [DX10_value_176, DX10_value_177, r_ck, r_0, r_1, r_2, r_3, r_4, r_5, r_6, r_7, r_8, r_9, r_10, r_11, r_12, r_13, r_14, r_15, r_16, r_17, r_18, r_19, r_20, r_21, r_22, r_23, r_24, r_25, r_26, r_27, r_28, r_29, r_30, r_31, r_32, r_33, r_34, r_35, r_36, r_37, rp_0, rp_1, rp_26, rp_28, rp_30, rp_33, rp_35, rp_37, Option.bind_some, bRT, bRW, bWW, bW, le0, ne10, if_true, if_false, not_true_eq_false, not_false_eq_true, uI_at, uA_1, uB_1, uG_1, uI_2, f_isSigned (hM'.thr 0) hn hm, ite01, a, sN0 (k := 286) rfl (show m < ln 286 from hm4), u00]
      · refine Out.thr ⟨hC, hM, hI⟩ 3 (by omega) 0 ?_ (fun σ' hM' => ?_)
        · simp only [DX9_value, o_ck, o_0, o_1, o_2, o_3, o_4, o_5, o_6, t_ck, t_0, v_ck, v_0, q_ck, q_0, q_1, q_2, q_3, q_4, wr_ck, wr_0, wr_1, wr_2, rd_ck, rd_0, rd_1, Option.bind_some, bRT, bRW, bWW, bW, le0, ne10, if_true, if_false, not_true_eq_false, not_false_eq_true, uI_at, uA_1, uB_1, uG_1, uI_2, e_tg hC hi, e_tm hC hi hm e, e_couldTake hC hm4, ite01, hg, c_6 hC hm4, c_5 hC hi4]
          by_cases h1 : s.1 m 6 = 0
          · rw [if_pos h1, if_neg (fun h2 => hf ⟨h1, h2⟩)]; rfl
          · rw [if_neg h1]; rfl
        · refine (hR σ' hM').trans ?_
          rw [if_pos hg]
          have hM0 := hM'.thr 0
          simp only [DX10_value_112, DX10_value_142, DX10_value_177, r_ck, r_0, r_1, r_2, r_3, r_4, r_5, r_6, r_7, r_8, r_9, r_10, r_11, r_12, r_13, r_14, r_15, r_16, r_17, r_18, r_19, r_20, r_21, r_22, r_23, r_24, r_25, r_26, r_27, r_28, r_29, r_30, r_31, r_32, r_33, r_34, r_35, r_36, r_37, rp_0, rp_1, rp_26, rp_28, rp_30, rp_33, rp_35, rp_37, Option.bind_some, bRT, bRW, bWW, bW, le0, ne10, if_true, if_false, not_true_eq_false, not_false_eq_true, uI_at, uA_1, uB_1, uG_1, uI_2, m_lock hM0 hn hm, m_flat hM0 hn hi, le3, u00]
          by_cases h1 : s.1 m 6 = 0
          · rw [if_pos h1, if_neg (fun h2 => hf ⟨h1, h2⟩)]; rfl
          · rw [if_neg h1]; rfl
    · refine Out.thr ⟨hC, hM, hI⟩ 2 (by omega) 0 ?_ (fun σ' hM' => ?_)
      · simp only [DX9_value, o_ck, o_0, o_1, o_2, o_3, o_4, o_5, o_6, t_ck, t_0, v_ck, v_0, q_ck, q_0, q_1, q_2, q_3, q_4, wr_ck, wr_0, wr_1, wr_2, rd_ck, rd_0, rd_1, Option.bind_some, bRT, bRW, bWW, bW, le0, ne10, if_true, if_false, not_true_eq_false, not_false_eq_true, uI_at, uA_1, uB_1, uG_1, uI_2, e_tg hC hi, e_tm hC hi hm e, e_couldTake hC hm4, ite01, hg]
        rfl
      · refine (hR σ' hM').trans ?_
        rw [if_neg hg]
        simp only [DX10_value_112, DX10_value_177, r_ck, r_0, r_1, r_2, r_3, r_4, r_5, r_6, r_7, r_8, r_9, r_10, r_11, r_12, r_13, r_14, r_15, r_16, r_17, r_18, r_19, r_20, r_21, r_22, r_23, r_24, r_25, r_26, r_27, r_28, r_29, r_30, r_31, r_32, r_33, r_34, r_35, r_36, r_37, rp_0, rp_1, rp_26, rp_28, rp_30, rp_33, rp_35, rp_37, Option.bind_some, bRT, bRW, bWW, bW, le0, ne10, if_true, if_false, not_true_eq_false, not_false_eq_true, uI_at, uA_1, uB_1, uG_1, uI_2, le2, u00]
        rfl
