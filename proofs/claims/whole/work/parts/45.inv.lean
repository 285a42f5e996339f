/-! WHAT ALWAYS HOLDS OF THE ABSTRACT STATE -/
def pf (s : AS) (i : Nat) : Int32 := if s.1 i 2 = -1 then -1 else s.1 (s.1 i 2).toNatClampNeg 4
def TI (s : AS) : Prop := s.2.2.2 ≤ 40 ∧ ∀ i, i < s.2.2.2 → s.1 i 0 = nI i ∧ (∃ c, c ≤ 5 ∧ s.1 i 1 = nI c) ∧ (s.1 i 2 = -1 ∨ ∃ p, p < i ∧ s.1 i 2 = nI p ∧ s.1 p 1 = 0) ∧ (∃ c, c ≤ 999 ∧ s.1 i 3 = nI c) ∧ (∃ f, f ≤ i ∧ s.1 i 4 = nI f ∧ s.1 f 4 = nI f ∧ s.1 f 1 = s.1 i 1) ∧ ∀ q, q < s.2.2.2 → (s.1 i 4 = s.1 q 4 ↔ s.1 i 3 = s.1 q 3 ∧ pf s i = pf s q)
def VI (s : AS) (i : Nat) : Prop := (s.1 i 1 ≠ 1 → s.1 i 21 = 0) ∧ (∃ c, c ≤ 30 ∧ s.1 i 21 = nI c) ∧ (∃ c, c ≤ 3 ∧ s.1 i 23 = nI c) ∧ (s.1 i 1 = 5 → (s.2.2.1 i 0).length ≤ 14) ∧ (s.1 i 1 = 2 → s.1 i 10 = 0 ∨ s.1 i 10 = 1) ∧ (s.1 i 1 = 3 ∨ s.1 i 1 = 4 → s.1 i 10 = -1 ∨ ∃ c, c < (s.2.2.1 i 1).length ∧ s.1 i 10 = nI c) ∧ (∀ c ∈ s.2.2.1 i 1, ∃ d, d ≤ 99999 ∧ c = nI d)
def OI (s : AS) (i : Nat) : Prop := (s.1 i 13 = -1 ∨ (∃ o, o ≤ 7 ∧ s.1 i 13 = nI o) ∧ s.1 i 1 = 5 ∧ s.1 i 4 = nI i) ∧ (two (s.1 i 13) → ∃ a b, a < s.2.2.2 ∧ b < s.2.2.2 ∧ s.1 i 14 = nI a ∧ s.1 i 15 = nI b ∧ (s.1 a 1 = 2 ∨ s.1 a 1 = 5) ∧ (s.1 b 1 = 2 ∨ s.1 b 1 = 5)) ∧ (s.1 i 13 = 6 → ∃ a, a < s.2.2.2 ∧ s.1 i 14 = nI a)
def Fr (s : AS) (i : Nat) : Prop := s.1 i 5 = 0 ∧ s.1 i 6 = 0 ∧ s.1 i 13 = -1 ∧ s.1 i 16 = 0 ∧ (∀ j, j < 8 → s.1 i (20 + j) = 0) ∧ s.2.1 i 11 = -999999999999 ∧ s.2.1 i 12 = 999999999999 ∧ s.2.2.1 i 0 = [] ∧ s.2.2.1 i 1 = []
def sd (x : Int32) : Prop := x = 0 ∨ x = 1 ∨ x = 2
def Inv (s : AS) : Prop := TI s ∧ (∀ i, i < s.2.2.2 → VI s i ∧ OI s i) ∧ (∀ i, s.2.2.2 ≤ i → i < 40 → Fr s i) ∧ (∀ i, i < s.2.2.2 → sd (s.1 i 27))
theorem Inv.n40 {s : AS} (h : Inv s) : s.2.2.2 ≤ 40 := h.1.1
theorem Inv.num {s : AS} (h : Inv s) {i : Nat} (hi : i < s.2.2.2) : s.1 i 0 = nI i := (h.1.2 i hi).1
theorem Inv.kind {s : AS} (h : Inv s) {i : Nat} (hi : i < s.2.2.2) : ∃ c, c ≤ 5 ∧ s.1 i 1 = nI c := (h.1.2 i hi).2.1
theorem Inv.par {s : AS} (h : Inv s) {i : Nat} (hi : i < s.2.2.2) : s.1 i 2 = -1 ∨ ∃ p, p < i ∧ s.1 i 2 = nI p ∧ s.1 p 1 = 0 := (h.1.2 i hi).2.2.1
theorem Inv.name {s : AS} (h : Inv s) {i : Nat} (hi : i < s.2.2.2) : ∃ c, c ≤ 999 ∧ s.1 i 3 = nI c := (h.1.2 i hi).2.2.2.1
theorem Inv.fst {s : AS} (h : Inv s) {i : Nat} (hi : i < s.2.2.2) : ∃ f, f ≤ i ∧ s.1 i 4 = nI f ∧ s.1 f 4 = nI f ∧ s.1 f 1 = s.1 i 1 := (h.1.2 i hi).2.2.2.2.1
theorem Inv.can {s : AS} (h : Inv s) {i q : Nat} (hi : i < s.2.2.2) (hq : q < s.2.2.2) : s.1 i 4 = s.1 q 4 ↔ s.1 i 3 = s.1 q 3 ∧ pf s i = pf s q := (h.1.2 i hi).2.2.2.2.2 q hq
theorem Inv.V {s : AS} (h : Inv s) {i : Nat} (hi : i < s.2.2.2) : VI s i := (h.2.1 i hi).1
theorem Inv.O {s : AS} (h : Inv s) {i : Nat} (hi : i < s.2.2.2) : OI s i := (h.2.1 i hi).2
theorem Inv.new {s : AS} (h : Inv s) {i : Nat} (hi : s.2.2.2 ≤ i) (h4 : i < 40) : Fr s i := h.2.2.1 i hi h4
theorem Inv.side {s : AS} (h : Inv s) {i : Nat} (hi : i < s.2.2.2) : sd (s.1 i 27) := h.2.2.2 i hi
theorem Inv.k6 {s : AS} (h : Inv s) {i : Nat} (hi : i < s.2.2.2) : s.1 i 1 = 0 ∨ s.1 i 1 = 1 ∨ s.1 i 1 = 2 ∨ s.1 i 1 = 3 ∨ s.1 i 1 = 4 ∨ s.1 i 1 = 5 := by
  obtain ⟨c, hc, e⟩ := h.kind hi
  rw [e]
  rcases c with _ | _ | _ | _ | _ | _ | c
  · exact Or.inl rfl
  · exact Or.inr (Or.inl rfl)
  · exact Or.inr (Or.inr (Or.inl rfl))
  · exact Or.inr (Or.inr (Or.inr (Or.inl rfl)))
  · exact Or.inr (Or.inr (Or.inr (Or.inr (Or.inl rfl))))
  · exact Or.inr (Or.inr (Or.inr (Or.inr (Or.inr rfl))))
  · omega
/-- one field is changed in what is no place in the tree -/
theorem Inv.one {s t : AS} {i : Nat} (h : Inv s) (hi : i < s.2.2.2) (hn : t.2.2.2 = s.2.2.2) (h4 : ∀ q j, j ≤ 4 → t.1 q j = s.1 q j) (ho : ∀ q, q ≠ i → q < 40 → t.1 q = s.1 q ∧ t.2.1 q = s.2.1 q ∧ t.2.2.1 q = s.2.2.1 q) (hV : VI t i) (hO : OI t i) (hD : sd (t.1 i 27)) : Inv t := by
  have hn4 := h.n40
  have hpf : ∀ q, pf t q = pf s q := fun q => by unfold pf; rw [h4 q 2 (by omega), h4 _ 4 (by omega)]
  refine ⟨⟨by rw [hn]; exact h.n40, fun q hq => ?_⟩, fun q hq => ?_, fun q hq hq4 => ?_, fun q hq => ?_⟩
  · rw [hn] at hq ⊢
    obtain ⟨a, b, c, d, e, f⟩ := h.1.2 q hq
    refine ⟨by rw [h4 q 0 (by omega)]; exact a, by rw [h4 q 1 (by omega)]; exact b, ?_, by rw [h4 q 3 (by omega)]; exact d, ?_, fun r hr => ?_⟩
    · rcases c with c | ⟨p, h1, h2, h3⟩
      · exact Or.inl (by rw [h4 q 2 (by omega)]; exact c)
      · exact Or.inr ⟨p, h1, by rw [h4 q 2 (by omega)]; exact h2, by rw [h4 p 1 (by omega)]; exact h3⟩
    · obtain ⟨g, h1, h2, h3, h5⟩ := e
      exact ⟨g, h1, by rw [h4 q 4 (by omega)]; exact h2, by rw [h4 g 4 (by omega)]; exact h3, by rw [h4 g 1 (by omega), h4 q 1 (by omega)]; exact h5⟩
    · rw [h4 q 4 (by omega), h4 r 4 (by omega), h4 q 3 (by omega), h4 r 3 (by omega), hpf, hpf]
      exact f r hr
  · rw [hn] at hq
    by_cases e : q = i
    · rw [e]; exact ⟨hV, hO⟩
    · obtain ⟨a, b, c⟩ := ho q e (by omega)
      refine ⟨?_, ?_⟩
      · have := h.V hq
        unfold VI at this ⊢
        rw [a, c]
        exact this
      · obtain ⟨h1, h2, h3⟩ := h.O hq
        unfold OI
        rw [a, hn]
        refine ⟨h1, fun hp => ?_, h3⟩
        obtain ⟨x, y, q1, q2, q3, q4, q5, q6⟩ := h2 hp
        exact ⟨x, y, q1, q2, q3, q4, by rw [h4 x 1 (by omega)]; exact q5, by rw [h4 y 1 (by omega)]; exact q6⟩
  · rw [hn] at hq
    obtain ⟨a, b, c⟩ := ho q (by omega) hq4
    have := h.new hq hq4
    unfold Fr at this ⊢
    rw [a, b, c]
    exact this
  · rw [hn] at hq
    by_cases e : q = i
    · rw [e]; exact hD
    · rw [(ho q e (by omega)).1]; exact h.side hq
/-- only lists of the whole are changed -/
theorem Inv.lists {s t : AS} (h : Inv s) (hn : t.2.2.2 = s.2.2.2) (h1 : t.1 = s.1) (h2 : t.2.1 = s.2.1) (h3 : ∀ q, q < 40 → t.2.2.1 q = s.2.2.1 q) : Inv t := by
  have hn4 := h.n40
  refine ⟨?_, fun q hq => ?_, fun q hq hq4 => ?_, fun q hq => ?_⟩
  · have := h.1
    unfold TI at this ⊢
    unfold pf at this ⊢
    rw [hn, h1]
    exact this
  · rw [hn] at hq
    have a := h.V hq
    have b := h.O hq
    unfold VI at a ⊢
    unfold OI at b ⊢
    rw [h1, h3 q (by omega), hn]
    exact ⟨a, b⟩
  · rw [hn] at hq
    have := h.new hq hq4
    unfold Fr at this ⊢
    rw [h1, h2, h3 q hq4]
    exact this
  · rw [hn] at hq
    rw [h1]
    exact h.side hq
theorem RC.len {σ : SG} {s : AS} (h : RC σ s) {i : Nat} (hi : i < 40) : (s.2.2.1 i 0).length ≤ 30 ∧ (s.2.2.1 i 1).length ≤ 12 := by
  have a := h.sg hi
  have b := h.cd hi
  refine ⟨?_, ?_⟩
  · rw [← a.2, rlist_len]
    have := a.1.2.2.2
    rw [ln_S hi] at this
    exact this
  · rw [← b.2, rlist_len]
    have := b.1.2.2.2
    rw [ln_C hi] at this
    exact this
/-! numbers that are in the tree, and others -/
theorem ixc (x : Int32) {n : Nat} (hn : n ≤ 40) : (x < 0 ∨ nI n ≤ x) ∨ ∃ i, i < n ∧ x = nI i := by
  by_cases c : x < 0
  · exact Or.inl (Or.inl c)
  · by_cases c2 : nI n ≤ x
    · exact Or.inl (Or.inr c2)
    · obtain ⟨j, hj, e⟩ := nI_of c
      refine Or.inr ⟨j, ?_, e⟩
      rw [e] at c2
      rcases Nat.lt_or_ge j n with q | q
      · exact q
      · exact absurd (nI_le q hj) c2
theorem k1 {i : Nat} (hi : i < 40) {h : Nat} {σ : SG} : ck (HH h σ) (h + (3 + 6 * i)) 1 = some () := ck_1 (kd_F hi)
theorem g7 {i : Nat} (hi : i < 40) {h : Nat} {σ : SG} : gR (HH h σ) (h + (3 + 6 * i)) 1 7 = some (h + (3 + 6 * i + 1)) := g_1_7 (kd_F hi)
theorem g8 {i : Nat} (hi : i < 40) {h : Nat} {σ : SG} : gR (HH h σ) (h + (3 + 6 * i)) 1 8 = some (h + (3 + 6 * i + 2)) := g_1_8 (kd_F hi)
theorem g9 {i : Nat} (hi : i < 40) {h : Nat} {σ : SG} : gR (HH h σ) (h + (3 + 6 * i)) 1 9 = some (h + (3 + 6 * i + 4)) := g_1_9 (kd_F hi)
theorem e_tc {N h : Nat} {σ : SG} {s : AS} (hC : RC σ s) : DX6_count N (h + 1) (HH h σ) = some (nI s.2.2.2) := by
  simp only [DX6_count, t_ck, Option.bind_some, c_n hC]
theorem e_tg {N h : Nat} {σ : SG} {s : AS} (hC : RC σ s) {i : Nat} (hi : i < s.2.2.2) : DX6_get N (h + 1) (nI i) (HH h σ) = some (.inl (h + (3 + 6 * i))) := by
  have := hC.n40
  simp only [DX6_get, t_ck, Option.bind_some, c_n hC, t_0]
  rw [if_neg (nI_pos (by omega)), if_neg (nI_ge hi (by omega)), al_3 (k := 2) rfl]
  simp only [Option.bind_some]
  rw [if_pos (show nI i < nI (ln 2) from nI_lt (show i < 40 by omega) (by decide)), a_3, nI_clamp (by omega), if_pos ⟨nI_pos (by omega), by omega⟩]
  rfl
theorem e_tg0 {N h : Nat} {σ : SG} {s : AS} (hC : RC σ s) {x : Int32} (hx : x < 0 ∨ nI s.2.2.2 ≤ x) : DX6_get N (h + 1) x (HH h σ) = some (.inr "java/util/NoSuchElementException") := by
  have := hC.n40
  simp only [DX6_get, t_ck, Option.bind_some, c_n hC, t_0]
  by_cases c : x < 0
  · rw [if_pos c]
  · rw [if_neg c, if_pos (hx.resolve_left c)]
theorem e_tm {N h : Nat} {σ : SG} {s : AS} (hC : RC σ s) {i f : Nat} (hi : i < s.2.2.2) (hf : f < s.2.2.2) (e : s.1 i 4 = nI f) : DX6_masterOf N (h + 1) (nI i) (HH h σ) = some (.inl (h + (3 + 6 * f))) := by
  have := hC.n40
  simp only [DX6_masterOf, t_ck, Option.bind_some, e_tg hC hi, bRT, c_4 hC (show i < 40 by omega), e, e_tg hC hf]
theorem e_tm0 {N h : Nat} {σ : SG} {s : AS} (hC : RC σ s) {x : Int32} (hx : x < 0 ∨ nI s.2.2.2 ≤ x) : DX6_masterOf N (h + 1) x (HH h σ) = some (.inr "java/util/NoSuchElementException") := by
  simp only [DX6_masterOf, t_ck, Option.bind_some, e_tg0 hC hx, bRT]
theorem e_no {N h : Nat} {σ : SG} {s : AS} (hM : RM σ s) (hn : s.2.2.2 ≤ 40) {i : Nat} (hi : i < s.2.2.2) : DX10_no N (h + 275) (nI i) (HH h σ) = some 0 := by
  unfold DX10_no
  simp only [r_ck, r_1, Option.bind_some, hM.nn]
  rw [if_neg (nI_pos (by omega)), if_pos (nI_lt hi (by omega))]
theorem e_no0 {N h : Nat} {σ : SG} {s : AS} (hM : RM σ s) {x : Int32} (hx : x < 0 ∨ nI s.2.2.2 ≤ x) : DX10_no N (h + 275) x (HH h σ) = some 1 := by
  unfold DX10_no
  simp only [r_ck, r_1, Option.bind_some, hM.nn]
  by_cases c : x < 0
  · rw [if_pos c]
  · rw [if_neg c, if_neg (fun q => absurd (hx.resolve_left c) (by rw [Int32.not_le]; exact q))]
theorem Inv.f {s : AS} (h : Inv s) {i : Nat} (hi : i < s.2.2.2) : ∃ f, f < s.2.2.2 ∧ s.1 i 4 = nI f ∧ s.1 f 1 = s.1 i 1 := by
  obtain ⟨f, h1, h2, _, h4⟩ := h.fst hi
  exact ⟨f, by omega, h2, h4⟩
