/-! DIGITS: the class's rows and the reference's row get the same lists -/
def dig (n b : Nat) : Int32 := nI (48 + n / 10 ^ b % 10)
def ndg (n : Nat) : Nat → Nat → Nat
  | 0, d => d
  | w + 1, d => if n / 10 ^ d = 0 then d else ndg n w (d + 1)
def nd (n : Nat) : Nat := ndg n 17 1
def nl (n : Nat) (cm : Bool) : Nat → List Int32
  | 0 => []
  | b + 1 => dig n b :: ((if cm = true ∧ 0 < b ∧ b % 3 = 0 then [44] else []) ++ nl n cm b)
def numL (n : Nat) (cm : Bool) : List Int32 := nl n cm (nd n)
def partL (n d : Nat) : List Int32 := if d = 0 then [] else 46 :: nl n false d
theorem lNT {n : Nat} (h : n < 2 ^ 63) : (lN n).toInt = (n : Int) := pk_lT h
theorem l10 : (10 : Int64) = lN 10 := rfl
theorem l0 : (0 : Int64) = lN 0 := rfl
theorem i48 : (48 : Int32) = nI 48 := rfl
theorem nI_m1 (b : Nat) : nI b + (-1) = nI b - 1 := by rw [Int32.sub_eq_add_neg]
theorem nI_b1 (b : Nat) : nI (b + 1) - 1 = nI b := nI_pred b
theorem e_cut5 {N : Nat} {f : HF} {d : Nat} (hd : d < 2 ^ 31) : ∀ (w i m : Nat), i ≤ d → d - i < w → m < 2 ^ 63 → DX0_cut_5 N f w (nI d) (lN m) (nI i) = some (lN (m / 10 ^ (d - i))) := by
  intro w
  induction w with
  | zero => intro i m _ hw; omega
  | succ w ih =>
    intro i m hi hw hm
    rw [DX0_cut_5]
    by_cases c : d ≤ i
    · have e : d - i = 0 := by omega
      rw [if_pos (nI_le c (by omega)), e]
      simp
    · rw [if_neg (nI_ge (by omega) (by omega)), l10, pk_lDiv hm (by omega) (by omega), nI_1, ih (i + 1) (m / 10) (by omega) (by omega) (by omega)]
      congr 2
      rw [show d - i = (d - (i + 1)) + 1 by omega, Nat.pow_succ, Nat.mul_comm, Nat.div_div_eq_div_mul]
theorem e_cut {N : Nat} {f : HF} {d m : Nat} (hN : 10000 ≤ N) (hd : d < 1000) (hm : m < 2 ^ 63) : DX0_cut N (lN m) (nI d) f = some (lN (m / 10 ^ d)) := by
  unfold DX0_cut
  have := e_cut5 (N := N) (f := f) (d := d) (by omega) N 0 m (by omega) (by omega) hm
  rw [nI_0] at this
  rw [this, Nat.sub_zero]
theorem e_dig {N : Nat} {f : HF} {b m : Nat} (hN : 10000 ≤ N) (hd : b < 1000) (hm : m < 2 ^ 63) : DX0_digitSign N (lN m) (nI b) f = some (dig m b) := by
  unfold DX0_digitSign
  rw [e_cut hN hd hm]
  simp only [Option.bind_some]
  have hq : m / 10 ^ b < 2 ^ 63 := Nat.lt_of_le_of_lt (Nat.div_le_self _ _) hm
  rw [l10, pk_lRem hq (by omega) (by omega), lN_i, i48, nI_add]
  rfl
theorem rem3 {b : Nat} (hb : b < 2 ^ 31) : nI b - nI b / (3 : Int32) * (3 : Int32) = nI (b % 3) := pk_rem (d := 3) hb (by omega) (by omega)
theorem e_addN33 {N h r m : Nat} (hN : 10000 ≤ N) (hm : m < 2 ^ 63) {cm : Int32} : ∀ (b w : Nat) (σ : SG), b < 1000 → b < w → rok σ r → DX0_addNumber_33 N w (lN m) cm (h + r) (nI b - 1) (HH h σ) = some ((), HH h (rapp σ r (nl m (!decide (cm = 0)) b))) := by
  intro b
  induction b with
  | zero =>
    intro w σ _ hw hr
    obtain ⟨w', rfl⟩ : ∃ w', w = w' + 1 := ⟨w - 1, by omega⟩
    rw [DX0_addNumber_33, if_pos (by rw [nI_0]; decide)]
    rfl
  | succ b ih =>
    intro w σ hb hw hr
    obtain ⟨w', rfl⟩ : ∃ w', w = w' + 1 := ⟨w - 1, by omega⟩
    rw [DX0_addNumber_33, nI_b1, if_neg (nI_pos (by omega)), e_dig hN (by omega) hm]
    simp only [Option.bind_some]
    rw [e_add hr]
    simp only [bW]
    have hr1 := rpush_ok (dig m b) hr
    unfold DX0_addNumber_72
    rw [nI_m1]
    by_cases c0 : cm = 0
    · rw [if_pos c0, ih w' _ (by omega) (by omega) hr1]
      simp [nl, c0, rapp]
    · rw [if_neg c0]
      by_cases c1 : b = 0
      · subst c1
        rw [if_pos (by rw [nI_0]; decide), ih w' _ (by omega) (by omega) hr1]
        simp [nl, rapp]
      · rw [if_neg (nI_nle (by omega) (by omega)), rem3 (by omega)]
        by_cases c2 : b % 3 = 0
        · rw [if_pos (by rw [c2]; rfl), e_add hr1]
          simp only [bW]
          rw [ih w' _ (by omega) (by omega) (rpush_ok 44 hr1)]
          simp [nl, c0, c2, rapp, show 0 < b by omega]
        · rw [if_neg (by rw [← nI_0, nI_eq (by omega) (by omega)]; exact c2), ih w' _ (by omega) (by omega) hr1]
          simp [nl, c2, rapp]
theorem ndg_le (n : Nat) : ∀ w d, ndg n w d ≤ d + w
  | 0, d => by simp [ndg]
  | w + 1, d => by
    unfold ndg
    split
    · omega
    · have := ndg_le n w (d + 1)
      omega
theorem ndg_ge (n : Nat) : ∀ w d, d ≤ ndg n w d
  | 0, d => by simp [ndg]
  | w + 1, d => by
    unfold ndg
    split
    · omega
    · have := ndg_ge n w (d + 1)
      omega
theorem e_addN3 {N h r m : Nat} (hN : 10000 ≤ N) (hm : m < 2 ^ 63) {cm : Int32} {σ : SG} (hr : rok σ r) : ∀ (w d : Nat), 1 ≤ d → d ≤ 18 → 18 - d < w → DX0_addNumber_3 N w (lN m) cm (h + r) (nI d) (HH h σ) = some ((), HH h (rapp σ r (nl m (!decide (cm = 0)) (ndg m (18 - d) d)))) := by
  intro w
  induction w with
  | zero => intro d _ _ hw; omega
  | succ w ih =>
    intro d h1 h2 hw
    rw [DX0_addNumber_3]
    by_cases c : 18 ≤ d
    · have e : d = 18 := by omega
      subst e
      rw [if_pos (by decide)]
      unfold DX0_addNumber_27
      rw [e_addN33 hN hm 18 N σ (by omega) (by omega) hr]
      rfl
    · rw [if_neg (show ¬ (18 : Int32) ≤ nI d from nI_ge (a := d) (b := 18) (by omega) (by omega)), e_cut hN (by omega) hm]
      simp only [Option.bind_some]
      have hq : m / 10 ^ d < 2 ^ 63 := Nat.lt_of_le_of_lt (Nat.div_le_self _ _) hm
      rw [show 18 - d = (18 - (d + 1)) + 1 by omega]
      by_cases c2 : m / 10 ^ d = 0
      · rw [if_pos (by rw [l0, pk_lLE hq (by omega)]; omega)]
        unfold DX0_addNumber_27
        rw [e_addN33 hN hm d N σ (by omega) (by omega) hr]
        simp only [ndg]
        rw [if_pos c2]
      · rw [if_neg (by rw [l0, pk_lLE hq (by omega)]; exact fun q => c2 (Nat.le_zero.mp q)), nI_1, ih (d + 1) (by omega) (by omega) (by omega)]
        simp only [ndg]
        rw [if_neg c2]
theorem e_addNumber {N h r m : Nat} (hN : 10000 ≤ N) (hm : m < 2 ^ 63) {cm : Int32} {σ : SG} (hr : rok σ r) : DX0_addNumber N (lN m) cm (h + r) (HH h σ) = some ((), HH h (rapp σ r (numL m (!decide (cm = 0))))) := by
  unfold DX0_addNumber
  exact e_addN3 hN hm hr N 1 (by omega) (by omega) (by omega)
theorem e_addP17 {N h r m : Nat} (hN : 10000 ≤ N) (hm : m < 2 ^ 63) : ∀ (b w : Nat) (σ : SG), b < 1000 → b < w → rok σ r → DX0_addPart_17 N w (lN m) (h + r) (nI b - 1) (HH h σ) = some ((), HH h (rapp σ r (nl m false b))) := by
  intro b
  induction b with
  | zero =>
    intro w σ _ hw hr
    obtain ⟨w', rfl⟩ : ∃ w', w = w' + 1 := ⟨w - 1, by omega⟩
    rw [DX0_addPart_17, if_pos (by rw [nI_0]; decide)]
    rfl
  | succ b ih =>
    intro w σ hb hw hr
    obtain ⟨w', rfl⟩ : ∃ w', w = w' + 1 := ⟨w - 1, by omega⟩
    rw [DX0_addPart_17, nI_b1, if_neg (nI_pos (by omega)), e_dig hN (by omega) hm]
    simp only [Option.bind_some]
    rw [e_add hr]
    simp only [bW]
    rw [nI_m1, ih w' _ (by omega) (by omega) (rpush_ok (dig m b) hr)]
    simp [nl, rapp]
theorem e_addPart {N h r m d : Nat} (hN : 10000 ≤ N) (hm : m < 2 ^ 63) (hd : d < 1000) {σ : SG} (hr : rok σ r) : DX0_addPart N (lN m) (nI d) (h + r) (HH h σ) = some ((), HH h (rapp σ r (partL m d))) := by
  unfold DX0_addPart partL
  by_cases c : d = 0
  · subst c
    rw [if_neg (by rw [nI_0]; decide), if_pos rfl]
    rfl
  · rw [if_pos (by rw [← nI_0]; exact nI_lt (by omega) (by omega)), e_add hr, if_neg c]
    simp only [bW]
    rw [e_addP17 hN hm d N _ hd (by omega) (rpush_ok 46 hr)]
    rfl
/-! the reference's row -/
def mr (σ : SG) : Nat := (σ.1 275 28).toNatClampNeg
def mok (σ : SG) : Prop := σ.1 275 28 = nI (mr σ) ∧ mr σ ≤ 64
def mpush (σ : SG) (x : Int32) : SG := uI (uA σ 300 (mr σ) x) 275 28 (nI (mr σ + 1))
def mapp (σ : SG) : List Int32 → SG
  | [] => σ
  | x :: xs => mapp (mpush σ x) xs
def mlist (σ : SG) : List Int32 := (List.range (mr σ)).map (σ.2.2.1 300)
theorem k275 : kd 275 = 9 := rfl
theorem e_put {N h : Nat} {σ : SG} (hm : mok σ) (hc : mr σ < 64) (x : Int32) : DX10_put N (h + 275) x (HH h σ) = some ((), HH h (mpush σ x)) := by
  unfold DX10_put
  rw [ck_9 k275]
  simp only [Option.bind_some]
  rw [g_9_27 k275]
  simp only [Option.bind_some]
  rw [g_9_28 k275, hm.1]
  simp only [Option.bind_some]
  rw [s_0 (k := 300) rfl, if_pos ⟨nI_pos (by omega), by rw [nI_clamp (by omega)]; exact hc⟩]
  simp only [Option.bind_some]
  rw [g_9_28 k275]
  simp only [Option.bind_some]
  rw [p_9_28 k275]
  simp only [Option.bind_some]
  rw [nI_clamp (by omega)]
  have e : (uA σ 300 (mr σ) x).1 275 28 = nI (mr σ) := hm.1
  rw [e, nI_1]
  rfl
theorem mpush_mr {σ : SG} {x : Int32} (hc : mr σ < 64) : mr (mpush σ x) = mr σ + 1 := by
  unfold mpush
  show ((uI (uA σ 300 (mr σ) x) 275 28 (nI (mr σ + 1))).1 275 28).toNatClampNeg = _
  rw [uI_at]
  exact nI_clamp (by omega)
theorem mpush_ok {σ : SG} (x : Int32) (hc : mr σ < 64) : mok (mpush σ x) := by
  refine ⟨?_, by rw [mpush_mr hc]; omega⟩
  rw [mpush_mr hc]
  unfold mpush
  rw [uI_at]
theorem mpush_but (σ : SG) (x : Int32) : sbut [275, 300] σ (mpush σ x) := (sbut.uA (by simp)).tr (sbut.uI (by simp))
theorem mapp_but : ∀ (xs : List Int32) (σ : SG), sbut [275, 300] σ (mapp σ xs)
  | [], σ => sbut.rf
  | x :: xs, σ => (mpush_but σ x).tr (mapp_but xs (mpush σ x))
theorem mapp_app : ∀ (xs ys : List Int32) (σ : SG), mapp σ (xs ++ ys) = mapp (mapp σ xs) ys
  | [], ys, σ => rfl
  | x :: xs, ys, σ => mapp_app xs ys (mpush σ x)
theorem mapp_ok : ∀ (xs : List Int32) {σ : SG}, mok σ → mr σ + xs.length ≤ 64 → mok (mapp σ xs) ∧ mr (mapp σ xs) = mr σ + xs.length
  | [], σ, h, _ => ⟨h, rfl⟩
  | x :: xs, σ, h, hl => by
    simp only [List.length_cons] at hl
    have c : mr σ < 64 := by omega
    obtain ⟨a, b⟩ := mapp_ok xs (mpush_ok x c) (by rw [mpush_mr c]; omega)
    refine ⟨a, ?_⟩
    show mr (mapp (mpush σ x) xs) = _
    rw [b, mpush_mr c]
    simp only [List.length_cons]
    omega
theorem mpush_list {σ : SG} {x : Int32} (hc : mr σ < 64) : mlist (mpush σ x) = mlist σ ++ [x] := by
  unfold mlist
  rw [mpush_mr hc, List.range_succ, List.map_append]
  congr 1
  · apply List.map_congr_left
    intro j hj
    have hj' := List.mem_range.mp hj
    show (uA σ 300 (mr σ) x).2.2.1 300 j = _
    exact uA_ne _ _ _ _ (by omega)
  · show [(uA σ 300 (mr σ) x).2.2.1 300 (mr σ)] = _
    rw [uA_at]
theorem mapp_list : ∀ (xs : List Int32) {σ : SG}, mr σ + xs.length ≤ 64 → mlist (mapp σ xs) = mlist σ ++ xs
  | [], σ, _ => by simp [mapp]
  | x :: xs, σ, h => by
    simp only [List.length_cons] at h
    have c : mr σ < 64 := by omega
    show mlist (mapp (mpush σ x) xs) = _
    rw [mapp_list xs (by rw [mpush_mr c]; omega), mpush_list c]
    simp
/-- scalars of the reference other than its row's size stay -/
theorem mapp_I {j : Nat} (hj : j ≠ 28) : ∀ (xs : List Int32) (σ : SG), (mapp σ xs).1 275 j = σ.1 275 j
  | [], σ => rfl
  | x :: xs, σ => by
    show (mapp (mpush σ x) xs).1 275 j = _
    rw [mapp_I hj xs]
    unfold mpush
    rw [uI_ne _ _ _ _ (by omega)]
    rfl
theorem l48 : (48 : Int64) = lN 48 := rfl
theorem nl_len (n : Nat) (cm : Bool) : ∀ b, (nl n cm b).length ≤ 2 * b
  | 0 => by simp [nl]
  | b + 1 => by
    have := nl_len n cm b
    unfold nl
    simp only [List.length_cons, List.length_append]
    split <;> simp <;> omega
theorem e_putN35 {N h m : Nat} (hm : m < 2 ^ 63) {cm : Int32} : ∀ (b w : Nat) (σ : SG) (p : Nat), b ≤ 18 → b < w → (∀ b', b = b' + 1 → p = 10 ^ b') → p < 2 ^ 63 → mok σ → mr σ + (nl m (!decide (cm = 0)) b).length ≤ 64 → DX10_putNumber_35 N w (h + 275) (lN m) cm (lN p) (nI b) (HH h σ) = some ((), HH h (mapp σ (nl m (!decide (cm = 0)) b))) := by
  intro b
  induction b with
  | zero =>
    intro w σ p _ hw _ _ hk _
    obtain ⟨w', rfl⟩ : ∃ w', w = w' + 1 := ⟨w - 1, by omega⟩
    rw [DX10_putNumber_35, if_pos (by rw [nI_0]; decide)]
    rfl
  | succ b ih =>
    intro w σ p hb hw hp hp2 hk hl
    obtain ⟨w', rfl⟩ : ∃ w', w = w' + 1 := ⟨w - 1, by omega⟩
    have e := hp b rfl
    have hpos : 0 < p := by rw [e]; exact Nat.pow_pos (by omega)
    rw [DX10_putNumber_35, if_neg (nI_nle (by omega) (by omega)), if_pos (by rw [l0, pk_lEQ hp2 (by omega)]; omega)]
    have hq : m / p < 2 ^ 63 := Nat.lt_of_le_of_lt (Nat.div_le_self _ _) hm
    have ed : (((48 : Int64) + ((lN m / lN p) - (lN m / lN p) / (10 : Int64) * (10 : Int64)))).toInt32 = dig m b := by
      rw [pk_lDiv hm hpos hp2, l10, pk_lRem hq (by omega) (by omega), l48, lN_add, lN_i, e]
      rfl
    have hlen : mr σ < 64 := by
      unfold nl at hl
      simp only [List.length_cons] at hl
      omega
    rw [ed, e_put hk hlen]
    simp only [bW]
    unfold DX10_putNumber_89
    have e10 : lN p / (10 : Int64) = lN (p / 10) := by rw [l10, pk_lDiv hp2 (by omega) (by omega)]
    have hp' : ∀ b', b = b' + 1 → p / 10 = 10 ^ b' := fun b' hb' => by
      rw [e, hb', Nat.pow_succ]
      exact Nat.mul_div_cancel _ (by omega)
    rw [e10, nI_m1, nI_b1]
    have hk1 := mpush_ok (dig m b) hlen
    have hm1 := mpush_mr (x := dig m b) hlen
    unfold nl at hl
    simp only [List.length_cons, List.length_append] at hl
    by_cases c0 : cm = 0
    · simp only [c0, decide_true, Bool.not_true, Bool.false_eq_true, false_and, if_false, List.length_nil] at hl
      rw [if_pos c0, ih w' _ _ (by omega) (by omega) hp' (by omega) hk1 (by simp only [c0, decide_true, Bool.not_true]; omega)]
      simp [nl, c0, mapp]
    · rw [if_neg c0]
      by_cases c1 : b = 0
      · subst c1
        rw [if_pos (by decide), ih w' _ _ (by omega) (by omega) hp' (by omega) hk1 (by simp [nl]; omega)]
        simp [nl, mapp]
      · rw [if_neg (show ¬ nI (b + 1) ≤ (1 : Int32) from nI_ge (a := 1) (b := b + 1) (by omega) (by omega)), rem3 (by omega)]
        by_cases c2 : b % 3 = 0
        · simp only [c0, decide_false, Bool.not_false, show 0 < b by omega, c2, and_self, if_true, List.length_cons, List.length_nil] at hl
          rw [if_pos (by rw [show (b + 1) % 3 = 1 by omega]; rfl), e_put hk1 (by omega)]
          simp only [bW]
          have hm2 := mpush_mr (x := 44) (σ := mpush σ (dig m b)) (by omega)
          rw [ih w' _ _ (by omega) (by omega) hp' (by omega) (mpush_ok 44 (by omega)) (by simp only [c0, decide_false, Bool.not_false]; omega)]
          simp [nl, c0, c2, mapp, show 0 < b by omega]
        · have hx : ¬ nI ((b + 1) % 3) = (1 : Int32) := by
            rw [show (1 : Int32) = nI 1 from rfl, nI_eq (by omega) (by omega)]
            omega
          rw [if_neg hx, ih w' _ _ (by omega) (by omega) hp' (by omega) hk1 (by split at hl <;> simp at hl <;> omega)]
          simp [nl, c2, mapp]
theorem e_putN6 {N h m : Nat} (hN : 10000 ≤ N) (hm : m < 10 ^ 17) {cm : Int32} {σ : SG} (hk : mok σ) (hl : mr σ + (numL m (!decide (cm = 0))).length ≤ 64) : ∀ (w d : Nat), 1 ≤ d → d ≤ 18 → 18 - d < w → numL m (!decide (cm = 0)) = nl m (!decide (cm = 0)) (ndg m (18 - d) d) → DX10_putNumber_6 N w (h + 275) (lN m) cm (lN (10 ^ (d - 1))) (nI d) (HH h σ) = some ((), HH h (mapp σ (numL m (!decide (cm = 0))))) := by
  intro w
  induction w with
  | zero => intro d _ _ hw; omega
  | succ w ih =>
    intro d h1 h2 hw he
    have hpp : 10 ^ (d - 1) ≤ 10 ^ 17 := Nat.pow_le_pow_right (by omega) (by omega)
    have hp1 : 0 < 10 ^ (d - 1) := Nat.pow_pos (by omega)
    have h17 : (10 : Nat) ^ 17 < 2 ^ 62 := by decide
    have hm63 : m < 2 ^ 63 := by omega
    have hq : m / 10 ^ (d - 1) < 2 ^ 63 := Nat.lt_of_le_of_lt (Nat.div_le_self _ _) hm63
    rw [DX10_putNumber_6, if_pos (by rw [l0, pk_lEQ (by omega) (by omega)]; omega), pk_lDiv hm63 hp1 (by omega), l10]
    have hdd : m / 10 ^ d = m / 10 ^ (d - 1) / 10 := by
      rw [Nat.div_div_eq_div_mul, ← Nat.pow_succ, show (d - 1).succ = d by omega]
    by_cases c : m / 10 ^ (d - 1) < 10
    · rw [if_pos ((pk_lLT hq (by omega)).mpr c)]
      have e : ndg m (18 - d) d = d := by
        cases hw9 : 18 - d with
        | zero => rfl
        | succ z =>
          simp only [ndg]
          rw [if_pos (by rw [hdd]; exact Nat.div_eq_of_lt c)]
      rw [he, e] at hl ⊢
      exact e_putN35 hm63 d N σ (10 ^ (d - 1)) h2 (by omega) (fun b' hb' => by rw [hb']; rfl) (by omega) hk hl
    · rw [if_neg (fun q => c ((pk_lLT hq (by omega)).mp q))]
      have hd18 : d < 18 := by
        rcases Nat.lt_or_ge d 18 with q | q
        · exact q
        · have e : d = 18 := by omega
          subst e
          have : m / 10 ^ (18 - 1) = 0 := Nat.div_eq_of_lt hm
          omega
      have e1 : lN 10 * lN (10 ^ (d - 1)) = lN (10 ^ (d + 1 - 1)) := by
        rw [lN_mul, Nat.mul_comm, ← Nat.pow_succ]
        congr 2
        omega
      rw [e1, nI_1]
      refine ih (d + 1) (by omega) (by omega) (by omega) ?_
      rw [he, show 18 - d = (18 - (d + 1)) + 1 by omega]
      simp only [ndg]
      rw [if_neg (by
        rw [hdd]
        generalize m / 10 ^ (d - 1) = q at c
        omega)]
theorem e_putNumber {N h m : Nat} (hN : 10000 ≤ N) (hm : m < 10 ^ 17) {cm : Int32} {σ : SG} (hk : mok σ) (hl : mr σ + (numL m (!decide (cm = 0))).length ≤ 64) : DX10_putNumber N (h + 275) (lN m) cm (HH h σ) = some ((), HH h (mapp σ (numL m (!decide (cm = 0))))) := by
  unfold DX10_putNumber
  rw [ck_9 k275]
  simp only [Option.bind_some]
  exact e_putN6 hN hm hk hl N 1 (by omega) (by omega) (by omega) rfl
