/-! THE LAW: the loop; the start -/
theorem law_loop {N L : Nat} {xs : Nat → Int32} (hN : 10000 ≤ N) (hL : L ≤ 384) {h : Nat} : ∀ (w p : Nat) (σ : SG) (s : AS) (c z : Nat), L - p < w → p ≤ 400 → c ≤ 307 + p → z ≤ 281031 + p → St σ s → ∃ f', DL_law_23 N L xs w h (h + 275) (h + 306) (nI p) (HH h σ) c z = some (1, f') := by
  intro w
  induction w with
  | zero => intro p σ s c z hw; omega
  | succ w ih =>
    intro p σ s c z hw hp hc hz hS
    rw [DL_law_23, if_pos (by omega)]
    have hcmp : (nI L - 6 < nI p) ↔ L < p + 6 := by
      rw [Int32.lt_iff_toInt_lt, Int32.toInt_sub, nIT (show L < 2 ^ 31 by omega), nIT (show p < 2 ^ 31 by omega), show (6 : Int32).toInt = 6 by decide, Int.bmod_eq_of_le (by omega) (by omega)]
      omega
    by_cases e : L < p + 6
    · exact ⟨_, if_pos (hcmp.mpr e)⟩
    · rw [if_neg (fun q => e (hcmp.mp q))]
      have hp6 : p + 6 ≤ L := by omega
      have x0 : xsI L xs (nI p) = some (xs p) := by
        unfold xsI
        rw [nI_clamp (by omega), if_pos ⟨nI_pos (by omega), by omega⟩]
      rw [x0, Option.bind_some]
      have next : ∀ (τ : SG) (s1 : AS), St τ s1 → ∃ f', DL_law_23 N L xs w h (h + 275) (h + 306) (nI p + 6) (HH h τ) (c + 1) (z + 6) = some (1, f') := fun τ s1 hS1 => by
        rw [show nI p + (6 : Int32) = nI (p + 6) from nI_add p 6]
        exact ih (p + 6) τ s1 (c + 1) (z + 6) (by omega) (by omega) (by omega) (by omega) hS1
      generalize (xs p &&& (31 : Int32)) = k
      by_cases k0 : k = 0
      · rw [if_pos k0]
        obtain ⟨τ, s1, e3, e4⟩ := c0_ok hN hL hS hp6 (DL_law_23 N L xs w) c z
        rw [e4]
        exact next τ s1 e3
      rw [if_neg k0]
      by_cases k1 : k = 1
      · rw [if_pos k1]
        obtain ⟨τ, s1, e3, e4⟩ := c1_ok hN hL hS hp6 (DL_law_23 N L xs w) c z
        rw [e4]
        exact next τ s1 e3
      rw [if_neg k1]
      by_cases k2 : k = 2
      · rw [if_pos k2]
        obtain ⟨τ, s1, e3, e4⟩ := c2_ok hN hL hS hp6 (DL_law_23 N L xs w) c z
        rw [e4]
        exact next τ s1 e3
      rw [if_neg k2]
      by_cases k3 : k = 3
      · rw [if_pos k3]
        obtain ⟨τ, s1, e3, e4⟩ := c3_ok hN hL hS hp6 (DL_law_23 N L xs w) c z
        rw [e4]
        exact next τ s1 e3
      rw [if_neg k3]
      by_cases k4 : k = 4
      · rw [if_pos k4]
        obtain ⟨τ, s1, e3, e4⟩ := c4_ok hN hL hS hp6 (DL_law_23 N L xs w) c z
        rw [e4]
        exact next τ s1 e3
      rw [if_neg k4]
      by_cases k5 : k = 5
      · rw [if_pos k5]
        obtain ⟨τ, s1, e3, e4⟩ := c5_ok hN hL hS hp6 (DL_law_23 N L xs w) c z
        rw [e4]
        exact next τ s1 e3
      rw [if_neg k5]
      by_cases k6 : k = 6
      · rw [if_pos k6]
        obtain ⟨τ, s1, e3, e4⟩ := c6_ok hN hL hS hp6 (DL_law_23 N L xs w) c z
        rw [e4]
        exact next τ s1 e3
      rw [if_neg k6]
      by_cases k7 : k = 7
      · rw [if_pos k7]
        obtain ⟨τ, s1, e3, e4⟩ := c7_ok hN hL hS hp6 (DL_law_23 N L xs w) c z
        rw [e4]
        exact next τ s1 e3
      rw [if_neg k7]
      by_cases k8 : k = 8
      · rw [if_pos k8]
        obtain ⟨τ, s1, e3, e4⟩ := c8_ok hN hL hS hp6 (DL_law_23 N L xs w) c z
        rw [e4]
        exact next τ s1 e3
      rw [if_neg k8]
      by_cases k9 : k = 9
      · rw [if_pos k9]
        obtain ⟨τ, s1, e3, e4⟩ := c9_ok hN hL hS hp6 (DL_law_23 N L xs w) c z
        rw [e4]
        exact next τ s1 e3
      rw [if_neg k9]
      by_cases k10 : k = 10
      · rw [if_pos k10]
        obtain ⟨τ, s1, e3, e4⟩ := c10_ok hN hL hS hp6 (DL_law_23 N L xs w) c z
        rw [e4]
        exact next τ s1 e3
      rw [if_neg k10]
      by_cases k11 : k = 11
      · rw [if_pos k11]
        obtain ⟨τ, s1, e3, e4⟩ := c11_ok hN hL hS hp6 (DL_law_23 N L xs w) c z
        rw [e4]
        exact next τ s1 e3
      rw [if_neg k11]
      by_cases k12 : k = 12
      · rw [if_pos k12]
        obtain ⟨τ, s1, e3, e4⟩ := c12_ok hN hL hS hp6 (DL_law_23 N L xs w) c z
        rw [e4]
        exact next τ s1 e3
      rw [if_neg k12]
      by_cases k13 : k = 13
      · rw [if_pos k13]
        obtain ⟨τ, s1, e3, e4⟩ := c13_ok hN hL hS hp6 (DL_law_23 N L xs w) c z
        rw [e4]
        exact next τ s1 e3
      rw [if_neg k13]
      by_cases k14 : k = 14
      · rw [if_pos k14]
        obtain ⟨τ, s1, e3, e4⟩ := c14_ok hN hL hS hp6 (DL_law_23 N L xs w) c z
        rw [e4]
        exact next τ s1 e3
      rw [if_neg k14]
      by_cases k15 : k = 15
      · rw [if_pos k15]
        obtain ⟨τ, s1, e3, e4⟩ := c15_ok hN hL hS hp6 (DL_law_23 N L xs w) c z
        rw [e4]
        exact next τ s1 e3
      rw [if_neg k15]
      by_cases k16 : k = 16
      · rw [if_pos k16]
        obtain ⟨τ, s1, e3, e4⟩ := c16_ok hN hL hS hp6 (DL_law_23 N L xs w) c z
        rw [e4]
        exact next τ s1 e3
      rw [if_neg k16]
      by_cases k17 : k = 17
      · rw [if_pos k17]
        obtain ⟨τ, s1, e3, e4⟩ := c17_ok hN hL hS hp6 (DL_law_23 N L xs w) c z
        rw [e4]
        exact next τ s1 e3
      rw [if_neg k17]
      by_cases k18 : k = 18
      · rw [if_pos k18]
        obtain ⟨τ, s1, e3, e4⟩ := c18_ok hN hL hS hp6 (DL_law_23 N L xs w) c z
        rw [e4]
        exact next τ s1 e3
      rw [if_neg k18]
      by_cases k19 : k = 19
      · rw [if_pos k19]
        obtain ⟨τ, s1, e3, e4⟩ := c19_ok hN hL hS hp6 (DL_law_23 N L xs w) c z
        rw [e4]
        exact next τ s1 e3
      rw [if_neg k19]
      exact next σ s hS
theorem kd_far {k : Nat} (h : 307 ≤ k) : kd k = 15 := by
  unfold kd
  rw [if_neg (by omega)]
  split <;> first | omega | (rw [if_neg (by omega)])
theorem HH_0 (h : Nat) : fil (fun _ => none) h 0 307 = HH h σ0 := by
  funext q
  simp only [fil, HH]
  by_cases e : h ≤ q
  · rw [if_pos e]
    by_cases e2 : q < h + 307
    · rw [if_pos (by omega)]
    · rw [if_neg (by omega)]
      simp only [mk, kd_far (show 307 ≤ q - h by omega)]
  · rw [if_neg e, if_neg (by omega)]
def s0 : AS := (fun _ j => if j = 13 then -1 else 0, fun _ j => if j = 11 then -999999999999 else if j = 12 then 999999999999 else 0, fun _ _ => [], 0)
theorem s0_F {i : Nat} (hi : i < 40) (j : Nat) : σ0.1 (3 + 6 * i) j = s0.1 i j := by
  have a : ¬ 3 + 6 * i = 261 := by omega
  have b : ¬ 3 + 6 * i = 268 := by omega
  simp [σ0, s0, kd_F hi, a, b]
theorem rok0 {r : Nat} (h4 : kd r = 4) (h10 : kd (r + 1) = 10) : rok σ0 r ∧ rlist σ0 r = [] := by
  have e := s0_row h4
  have hrc : rc σ0 r = 0 := by unfold rc; rw [e]; rfl
  refine ⟨⟨h4, h10, by rw [hrc, e]; rfl, by rw [hrc]; exact Nat.zero_le _⟩, ?_⟩
  unfold rlist
  rw [hrc]
  rfl
theorem RC_0 : RC σ0 s0 := by
  refine ⟨⟨Nat.zero_le _, rfl⟩, fun i hi => ⟨fun j hj => s0_F hi j, fun j hj => ?_, fun j hj => rfl, rok0 (kd_S hi) (kd_S1 hi), rok0 (kd_C hi) (kd_C1 hi)⟩, ⟨(rok0 rfl rfl).1, (rok0 rfl rfl).1, (rok0 rfl rfl).1⟩, ⟨rok0 rfl rfl, rok0 rfl rfl, rok0 rfl rfl⟩, ?_, ?_⟩
  · show (0 : Int32) = s0.1 i (20 + j)
    simp only [s0]
    rw [if_neg (by omega)]
  · exact ⟨rfl, rfl, Nat.zero_le _, fun w _ => ⟨rfl, fun j hj => absurd hj (by simp [s0])⟩⟩
  · exact ⟨rfl, rfl, Nat.zero_le _, fun w _ => ⟨rfl, fun j hj => absurd hj (by simp [s0])⟩⟩
theorem RM_0 : RM σ0 s0 := by
  refine ⟨rfl, fun i hi => absurd hi (by simp [s0]), fun i hi => ⟨⟨rfl, rfl, rfl, rfl⟩, fun j hj => ?_, ⟨rfl, fun j hj => absurd hj (by simp [s0])⟩, ⟨rfl, fun j hj => absurd hj (by simp [s0])⟩⟩, ⟨⟨rfl, fun j hj => absurd hj (by simp [s0])⟩, ⟨rfl, fun j hj => absurd hj (by simp [s0])⟩, ⟨rfl, fun j hj => absurd hj (by simp [s0])⟩⟩, ⟨rfl, fun w _ j hj => absurd hj (by simp [s0])⟩, ⟨rfl, fun w _ j hj => absurd hj (by simp [s0])⟩⟩
  show (0 : Int32) = s0.1 i (20 + j)
  simp only [s0]
  rw [if_neg (by omega)]
theorem Inv_0 : Inv s0 := by
  refine ⟨⟨Nat.zero_le _, fun i hi => absurd hi (by simp [s0])⟩, fun i hi => absurd hi (by simp [s0]), fun i _ _ => ⟨rfl, rfl, rfl, rfl, fun j hj => ?_, rfl, rfl, rfl, rfl⟩, fun i hi => absurd hi (by simp [s0])⟩
  simp only [s0]
  rw [if_neg (by omega)]
theorem pure_law (h L : Nat) (xs : Nat → Int32) (hL : L ≤ 384) : ∃ (N : Nat) (f' : HF), DL_law N L xs h = some (1, f') := by
  refine ⟨10000, ?_⟩
  obtain ⟨f', e⟩ := law_loop (N := 10000) (xs := xs) (Nat.le_refl _) hL (h := h) 10000 0 σ0 s0 307 281031 (by omega) (by omega) (by omega) (by omega) ⟨RC_0, RM_0, Inv_0⟩
  refine ⟨f', ?_⟩
  have e1 := i_form (N := 10000) (h := h) (Nat.le_refl _) (fun _ => none)
  have e2 := i_ref (N := 10000) (h := h) (fil (fun _ => none) h 0 275)
  rw [fil_fil (by omega) (by omega)] at e2
  have e3 : hup (fil (fun _ => none) h 0 306) (h + 306) (.inl (1, (1, .inr (.inl (fun _ => 0))))) = HH h σ0 := by
    rw [fil_up (by omega) (show mk h σ0 306 = some (.inl (1, (1, .inr (.inl (fun _ => 0))))) from rfl), HH_0]
  unfold DL_law
  rw [Nat.add_zero] at e1
  rw [e1, Option.bind_some]
  simp only []
  rw [Nat.add_assoc]
  refine (congrArg (fun o => Option.bind o _) e2).trans ?_
  rw [Option.bind_some]
  simp only []
  rw [e3]
  rw [nI_0] at e
  exact e
