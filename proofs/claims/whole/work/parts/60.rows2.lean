/-! ROWS INTO ROWS -/
theorem rlist_ag {σ τ : SG} {r : Nat} (h1 : agr σ τ r) (h2 : agr σ τ (r + 1)) : rlist τ r = rlist σ r := (rlist_cong h1.1 h2.2.2.1).1
theorem e_get_l {N h : Nat} {σ : SG} {r q : Nat} (hr : rok σ r) (hq : q < (rlist σ r).length) : DX5_get N (h + r) (nI q) (HH h σ) = some ((rlist σ r).getD q 0) := by
  rw [rlist_len] at hq
  rw [e_getN hr hq, List.getD_eq_getElem?_getD, rlist_get hq]
  rfl
theorem take_step {l : List Int32} {q n : Nat} (hq : q < l.length) (hn : 0 < n) : (l.drop q).take n = l.getD q 0 :: (l.drop (q + 1)).take (n - 1) := by
  rw [drop_cons hq]
  obtain ⟨k, rfl⟩ : ∃ k, n = k + 1 := ⟨n - 1, by omega⟩
  rfl
theorem e_addAll3 {N h : Nat} {r r' : Nat} (hd : r ≠ r' ∧ r ≠ r' + 1 ∧ r + 1 ≠ r' ∧ r + 1 ≠ r' + 1) {l : List Int32} {t : Nat} (ht : t ≤ l.length) (hl : l.length ≤ 8000) : ∀ (w q : Nat) (σ : SG), t - q < w → q < 2 ^ 31 → rok σ r → rok σ r' → rlist σ r' = l → DX5_addAll_3 N w (h + r) (h + r') (nI t) (nI q) (HH h σ) = some ((), HH h (rapp σ r ((l.drop q).take (t - q)))) := by
  intro w
  induction w with
  | zero => intro q σ hw; omega
  | succ w ih =>
    intro q σ hw hq31 hr hr' hl'
    rw [DX5_addAll_3]
    by_cases c : t ≤ q
    · have : t - q = 0 := by omega
      rw [if_pos (nI_le c hq31), this]
      rfl
    · rw [if_neg (nI_ge (by omega) (by omega)), e_get_l hr' (by rw [hl']; omega), hl']
      simp only [Option.bind_some, bRT, bRW, bWW, bW, le0, ne10, if_true, if_false, not_true_eq_false, not_false_eq_true, uI_at, uA_1, uB_1, uG_1, uI_2]
      rw [e_add hr]
      simp only [Option.bind_some, bRT, bRW, bWW, bW, le0, ne10, if_true, if_false, not_true_eq_false, not_false_eq_true, uI_at, uA_1, uB_1, uG_1, uI_2]
      have hb := rpush_but σ r (l.getD q 0)
      have h1 : agr σ (rpush σ r (l.getD q 0)) r' := hb.ag (by simp; omega)
      have h2 : agr σ (rpush σ r (l.getD q 0)) (r' + 1) := hb.ag (by simp; omega)
      rw [nI_1, ih (q + 1) _ (by omega) (by omega) (rpush_ok _ hr) (hr'.ag h1) (by rw [rlist_ag h1 h2, hl']), take_step (l := l) (q := q) (n := t - q) (by omega) (by omega), show t - q - 1 = t - (q + 1) by omega]
      rfl
theorem e_addAll {N h : Nat} (hN : 10000 ≤ N) {r r' : Nat} (hd : r ≠ r' ∧ r ≠ r' + 1 ∧ r + 1 ≠ r' ∧ r + 1 ≠ r' + 1) {t q : Nat} {σ : SG} (hq : q < 2 ^ 31) (hr : rok σ r) (hr' : rok σ r') (ht : t ≤ (rlist σ r').length) : DX5_addAll N (h + r) (h + r') (nI q) (nI t) (HH h σ) = some ((), HH h (rapp σ r (((rlist σ r').drop q).take (t - q)))) := by
  have hle : (rlist σ r').length ≤ 8000 := by
    rw [rlist_len]
    have := hr'.2.2.2
    have := ln_le (r' + 1)
    omega
  unfold DX5_addAll
  rw [ck_4 hr.1]
  simp only [Option.bind_some, bRT, bRW, bWW, bW, le0, ne10, if_true, if_false, not_true_eq_false, not_false_eq_true, uI_at, uA_1, uB_1, uG_1, uI_2]
  exact e_addAll3 hd ht hle N q σ (by omega) hq hr hr' rfl
theorem e_become {N h : Nat} (hN : 10000 ≤ N) {r r' : Nat} (hd : r ≠ r' ∧ r ≠ r' + 1 ∧ r + 1 ≠ r' ∧ r + 1 ≠ r' + 1) {σ : SG} (hr : rok σ r) (hr' : rok σ r') : DX5_become N (h + r) (h + r') (HH h σ) = some ((), HH h (rapp (uI σ r 1 0) r (rlist σ r'))) := by
  have hb : sbut [r] σ (uI σ r 1 0) := sbut.uI (by simp)
  have h1 : agr σ (uI σ r 1 0) r' := hb.ag (by simp; omega)
  have h2 : agr σ (uI σ r 1 0) (r' + 1) := hb.ag (by simp; omega)
  have hr2 := hr'.ag h1
  have hl2 := rlist_ag h1 h2
  unfold DX5_become
  rw [ck_4 hr.1]
  simp only [Option.bind_some, bRT, bRW, bWW, bW, le0, ne10, if_true, if_false, not_true_eq_false, not_false_eq_true, uI_at, uA_1, uB_1, uG_1, uI_2]
  rw [e_clear hr.1]
  simp only [Option.bind_some, bRT, bRW, bWW, bW, le0, ne10, if_true, if_false, not_true_eq_false, not_false_eq_true, uI_at, uA_1, uB_1, uG_1, uI_2]
  rw [e_count hr'.1, hr2.2.2.1]
  simp only [Option.bind_some, bRT, bRW, bWW, bW, le0, ne10, if_true, if_false, not_true_eq_false, not_false_eq_true, uI_at, uA_1, uB_1, uG_1, uI_2]
  have := e_addAll (h := h) hN hd (q := 0) (t := rc (uI σ r 1 0) r') (by omega) (rclear_ok hr) hr2 (by rw [rlist_len]; exact Nat.le_refl _)
  rw [nI_0] at this
  rw [this, List.drop_zero, hl2, Nat.sub_zero]
  have hlen : (rlist σ r').length = rc (uI σ r 1 0) r' := by rw [← hl2, rlist_len]
  rw [← hlen, List.take_length]
theorem list_ext_get {l l' : List Int32} (h : l.length = l'.length) (he : ∀ q, q < l.length → l.getD q 0 = l'.getD q 0) : l = l' := by
  apply List.ext_getElem h
  intro q h1 h2
  have := he q h1
  rw [List.getD_eq_getElem?_getD, List.getD_eq_getElem?_getD, List.getElem?_eq_getElem h1, List.getElem?_eq_getElem h2] at this
  exact this
theorem e_same15 {N h : Nat} {σ : SG} {r r' : Nat} (hr : rok σ r) (hr' : rok σ r') (hl : (rlist σ r).length = (rlist σ r').length) : ∀ (w q : Nat), q ≤ (rlist σ r).length → (rlist σ r).length - q < w → DX5_isSameAs_15 N (HH h σ) w (h + r) (h + r') (nI q) = some (if (rlist σ r).drop q = (rlist σ r').drop q then 1 else 0) := by
  intro w
  have hle : (rlist σ r).length ≤ 8000 := by
    rw [rlist_len]
    have := hr.2.2.2
    have := ln_le (r + 1)
    omega
  have hc : σ.1 r 1 = nI (rlist σ r).length := by rw [rlist_len]; exact hr.2.2.1
  induction w with
  | zero => intro q _ hw; omega
  | succ w ih =>
    intro q hq hw
    rw [DX5_isSameAs_15, g_4_1 hr.1, hc]
    simp only [Option.bind_some, bRT, bRW, bWW, bW, le0, ne10, if_true, if_false, not_true_eq_false, not_false_eq_true, uI_at, uA_1, uB_1, uG_1, uI_2]
    by_cases c : (rlist σ r).length ≤ q
    · rw [if_pos (nI_le c (by omega)), List.drop_eq_nil_of_le c, List.drop_eq_nil_of_le (by omega)]
      simp
    · rw [if_neg (nI_ge (by omega) (by omega)), e_get_l hr (by omega), e_get_l hr' (by omega)]
      simp only [Option.bind_some, bRT, bRW, bWW, bW, le0, ne10, if_true, if_false, not_true_eq_false, not_false_eq_true, uI_at, uA_1, uB_1, uG_1, uI_2]
      rw [drop_cons (l := rlist σ r) (by omega), drop_cons (l := rlist σ r') (by omega)]
      by_cases e : (rlist σ r).getD q 0 = (rlist σ r').getD q 0
      · rw [if_pos e, nI_1, ih (q + 1) (by omega) (by omega), e]
        simp
      · rw [if_neg e, if_neg (fun z => e (List.cons.inj z).1)]
theorem e_same {N h : Nat} (hN : 10000 ≤ N) {σ : SG} {r r' : Nat} (hr : rok σ r) (hr' : rok σ r') : DX5_isSameAs N (h + r) (h + r') (HH h σ) = some (if rlist σ r = rlist σ r' then 1 else 0) := by
  have hle : (rlist σ r).length ≤ 8000 := by
    rw [rlist_len]
    have := hr.2.2.2
    have := ln_le (r + 1)
    omega
  have hle' : (rlist σ r').length ≤ 8000 := by
    rw [rlist_len]
    have := hr'.2.2.2
    have := ln_le (r' + 1)
    omega
  have hc : σ.1 r 1 = nI (rlist σ r).length := by rw [rlist_len]; exact hr.2.2.1
  have hc' : σ.1 r' 1 = nI (rlist σ r').length := by rw [rlist_len]; exact hr'.2.2.1
  unfold DX5_isSameAs
  rw [ck_4 hr.1]
  simp only [Option.bind_some, bRT, bRW, bWW, bW, le0, ne10, if_true, if_false, not_true_eq_false, not_false_eq_true, uI_at, uA_1, uB_1, uG_1, uI_2]
  rw [g_4_1 hr.1, hc]
  simp only [Option.bind_some, bRT, bRW, bWW, bW, le0, ne10, if_true, if_false, not_true_eq_false, not_false_eq_true, uI_at, uA_1, uB_1, uG_1, uI_2]
  rw [e_count hr'.1, hc']
  simp only [Option.bind_some, bRT, bRW, bWW, bW, le0, ne10, if_true, if_false, not_true_eq_false, not_false_eq_true, uI_at, uA_1, uB_1, uG_1, uI_2]
  by_cases e : (rlist σ r).length = (rlist σ r').length
  · rw [if_pos (by rw [e])]
    have := e_same15 (N := N) (h := h) hr hr' e N 0 (by omega) (by omega)
    rw [nI_0] at this
    rw [this, List.drop_zero, List.drop_zero]
  · rw [if_neg (by rw [nI_eq (by omega) (by omega)]; exact e), if_neg (fun z => e (by rw [z]))]
/-! how long numbers are -/
theorem ndg_k {n k : Nat} (h : n < 10 ^ k) : ∀ w d, ndg n w d ≤ max d k
  | 0, d => by simp only [ndg]; omega
  | w + 1, d => by
    unfold ndg
    split
    · omega
    · rename_i hz
      have := ndg_k h w (d + 1)
      have hk : ¬ k ≤ d := fun q => hz (Nat.div_eq_of_lt (Nat.lt_of_lt_of_le h (Nat.pow_le_pow_right (by omega) q)))
      omega
theorem nd_k {n k : Nat} (h : n < 10 ^ k) (hk : 1 ≤ k) : nd n ≤ k := by
  have := ndg_k h 17 1
  unfold nd
  omega
theorem nl_f (n : Nat) : ∀ b, (nl n false b).length = b
  | 0 => rfl
  | b + 1 => by
    unfold nl
    simp [nl_f n b]
theorem partL_len (n d : Nat) : (partL n d).length ≤ d + 1 := by
  unfold partL
  split
  · simp
  · simp [nl_f]
theorem numL_f {n k : Nat} (h : n < 10 ^ k) (hk : 1 ≤ k) : (numL n false).length ≤ k := by
  unfold numL
  rw [nl_f]
  exact nd_k h hk
theorem numL_c {n k : Nat} (h : n < 10 ^ k) (hk : 1 ≤ k) (c : Bool) : (numL n c).length ≤ 2 * k := by
  unfold numL
  have := nl_len n c (nd n)
  have := nd_k h hk
  omega
