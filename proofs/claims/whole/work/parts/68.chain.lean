/-! FULL NAMES: fields above fields -/
def anc (s : AS) (m : Nat) : Nat → Nat
  | 0 => m
  | k + 1 => (s.1 (anc s m k) 2).toNatClampNeg
def dpf (s : AS) : Nat → Nat → Nat
  | 0, _ => 0
  | w + 1, i => if s.1 i 2 = -1 then 1 else dpf s w (s.1 i 2).toNatClampNeg + 1
def dpt (s : AS) (m : Nat) : Nat := dpf s 40 m
theorem anc_s (s : AS) (m : Nat) : ∀ k, anc s m (k + 1) = anc s (s.1 m 2).toNatClampNeg k
  | 0 => rfl
  | k + 1 => by
    show (s.1 (anc s m (k + 1)) 2).toNatClampNeg = (s.1 (anc s (s.1 m 2).toNatClampNeg k) 2).toNatClampNeg
    rw [anc_s s m k]
def DP (s : AS) (m d : Nat) : Prop := (∀ k, k < d → anc s m k < s.2.2.2 ∧ anc s m k + k ≤ m) ∧ (∀ k, k + 1 < d → s.1 (anc s m k) 2 = nI (anc s m (k + 1)) ∧ s.1 (anc s m (k + 1)) 1 = 0) ∧ 0 < d ∧ s.1 (anc s m (d - 1)) 2 = -1 ∧ d ≤ m + 1
theorem DP_f {s : AS} (hI : Inv s) : ∀ w m, m < w → m < s.2.2.2 → DP s m (dpf s w m) := by
  intro w
  have hn := hI.n40
  induction w with
  | zero => intro m h; omega
  | succ w ih =>
    intro m hw hm
    rw [dpf]
    rcases hI.par hm with e | ⟨p, hp, e, hk⟩
    · rw [if_pos e]
      refine ⟨fun k hk => ?_, fun k hk => by omega, by omega, e, by omega⟩
      obtain rfl : k = 0 := by omega
      exact ⟨hm, Nat.le_refl _⟩
    · rw [if_neg (by rw [e]; exact nI_nm1 (by omega)), e, nI_clamp (by omega)]
      obtain ⟨a, b, c, d, f⟩ := ih p (by omega) (by omega)
      have hs : ∀ k, anc s m (k + 1) = anc s p k := fun k => by rw [anc_s, e, nI_clamp (by omega)]
      refine ⟨fun k hk => ?_, fun k hk' => ?_, by omega, ?_, by omega⟩
      · cases k with
        | zero => exact ⟨hm, Nat.le_refl _⟩
        | succ k =>
          rw [hs k]
          have := a k (by omega)
          exact ⟨this.1, by omega⟩
      · cases k with
        | zero =>
          rw [hs 0]
          exact ⟨e, hk⟩
        | succ k =>
          rw [hs k, hs (k + 1)]
          exact b k (by omega)
      · obtain ⟨j, hj⟩ : ∃ j, dpf s w p = j + 1 := ⟨dpf s w p - 1, by omega⟩
        rw [hj] at d ⊢
        show s.1 (anc s m (j + 1)) 2 = -1
        rw [hs j]
        exact d
theorem Inv.DP {s : AS} (hI : Inv s) {m : Nat} (hm : m < s.2.2.2) : DP s m (dpt s m) := by
  have hn := hI.n40
  exact DP_f hI 40 m (by omega) hm
theorem anc_q {s t : AS} (h : t.1 = s.1) (m : Nat) : ∀ k, anc t m k = anc s m k
  | 0 => rfl
  | k + 1 => by
    show (t.1 (anc t m k) 2).toNatClampNeg = (s.1 (anc s m k) 2).toNatClampNeg
    rw [anc_q h m k, h]
theorem dpf_q {s t : AS} (h : t.1 = s.1) : ∀ w m, dpf t w m = dpf s w m
  | 0, _ => rfl
  | w + 1, m => by
    rw [dpf, dpf, h, dpf_q h w]
theorem dpt_q {s t : AS} (h : t.1 = s.1) (m : Nat) : dpt t m = dpt s m := dpf_q h 40 m
def nmf (s : AS) (m k : Nat) : Nat := (s.1 (anc s m k) 3).toNatClampNeg
def upL (U : Nat → Nat) : Nat → List Int32
  | 0 => []
  | j + 1 => numL (U j) false ++ ((if 0 < j then [46] else []) ++ upL U j)
def cnt (s : AS) (m : Nat) : List Int32 :=
  if s.1 m 1 = 1 ∨ s.1 m 1 = 5 then s.2.2.1 m 0
  else if s.1 m 1 = 2 then [(48 : Int32) + s.1 m 10]
  else if s.1 m 10 = -1 then [] else numL ((s.2.2.1 m 1).getD (s.1 m 10).toNatClampNeg 0).toNatClampNeg false
def line (s : AS) (m : Nat) : List Int32 := upL (nmf s m) (dpt s m) ++ ([61] ++ (cnt s m ++ [10]))
abbrev mst (s : AS) (m : Nat) : Prop := ¬ s.1 m 1 = 0 ∧ s.1 m 4 = nI m
def datL (s : AS) : Nat → List Int32
  | 0 => []
  | j + 1 => datL s j ++ (if mst s j then line s j else [])
theorem nmf_le {s : AS} (hI : Inv s) {m k : Nat} (hm : m < s.2.2.2) (hk : k < dpt s m) : nmf s m k ≤ 999 ∧ s.1 (anc s m k) 3 = nI (nmf s m k) := by
  obtain ⟨c, hc, e⟩ := hI.name ((hI.DP hm).1 k hk).1
  unfold nmf
  rw [e, nI_clamp (by omega)]
  exact ⟨hc, rfl⟩
theorem upL_len {U : Nat → Nat} : ∀ d, (∀ k, k < d → U k ≤ 999) → (upL U d).length ≤ 4 * d
  | 0, _ => by simp [upL]
  | d + 1, h => by
    have h1 := upL_len d (fun k hk => h k (by omega))
    have h2 := numL_f (n := U d) (k := 3) (by have := h d (by omega); omega) (by omega)
    unfold upL
    simp only [List.length_append]
    split <;> simp <;> omega
theorem upL_len2 {U : Nat → Nat} (d : Nat) (hd : 0 < d) (h : ∀ k, k < d → U k ≤ 999) : (upL U d).length + 1 ≤ 4 * d := by
  induction d with
  | zero => omega
  | succ d ih =>
    have h2 := numL_f (n := U d) (k := 3) (by have := h d (by omega); omega) (by omega)
    unfold upL
    simp only [List.length_append]
    by_cases z : 0 < d
    · have := ih z (fun k hk => h k (by omega))
      rw [if_pos z]
      simp
      omega
    · rw [if_neg z]
      have : d = 0 := by omega
      subst this
      simp [upL]
      omega
theorem cnt_len {s : AS} (hI : Inv s) {m : Nat} (hm : m < s.2.2.2) (hl : (s.2.2.1 m 0).length ≤ 30 ∧ (s.2.2.1 m 1).length ≤ 12) (hk0 : ¬ s.1 m 1 = 0) : (cnt s m).length ≤ 30 := by
  unfold cnt
  split
  · omega
  · split
    · simp
    · split
      · simp
      · rename_i h1 h2 h3
        have hk : s.1 m 1 = 3 ∨ s.1 m 1 = 4 := by
          rcases hI.k6 hm with k | k | k | k | k | k
          · exact absurd k hk0
          · exact absurd (Or.inl k) h1
          · exact absurd k h2
          · exact Or.inl k
          · exact Or.inr k
          · exact absurd (Or.inr k) h1
        obtain ⟨c, hc, e⟩ := ((hI.V hm).2.2.2.2.2.1 hk).resolve_left h3
        rw [e, nI_clamp (by omega)]
        obtain ⟨d, hd, e2⟩ := (hI.V hm).2.2.2.2.2.2 _ (getD_mem hc)
        rw [e2, nI_clamp (by omega)]
        have := numL_f (n := d) (k := 5) (by omega) (by omega)
        omega
theorem line_len {s : AS} (hI : Inv s) {m : Nat} (hm : m < s.2.2.2) (hl : (s.2.2.1 m 0).length ≤ 30 ∧ (s.2.2.1 m 1).length ≤ 12) (hk0 : ¬ s.1 m 1 = 0) : (line s m).length ≤ 4 * dpt s m + 31 := by
  have h1 := upL_len2 (dpt s m) (hI.DP hm).2.2.1 (fun k hk => (nmf_le hI hm hk).1)
  have h2 := cnt_len hI hm hl hk0
  unfold line
  simp only [List.length_append]
  simp
  omega
def gc (s : AS) : Nat → Nat
  | 0 => 0
  | j + 1 => gc s j + (if s.1 j 1 = 0 then 1 else 0)
def mc (s : AS) : Nat → Nat
  | 0 => 0
  | j + 1 => mc s j + (if mst s j then 1 else 0)
theorem gc_mono (s : AS) {a b : Nat} (h : a ≤ b) : gc s a ≤ gc s b := by
  induction h with
  | refl => exact Nat.le_refl _
  | step _ ih => exact Nat.le_trans ih (Nat.le_add_right _ _)
theorem gm_le (s : AS) : ∀ j, gc s j + mc s j ≤ j
  | 0 => by simp [gc, mc]
  | j + 1 => by
    have := gm_le s j
    unfold gc mc
    by_cases a : s.1 j 1 = 0
    · rw [if_pos a, if_neg (fun q => q.1 a)]; omega
    · rw [if_neg a]; split <;> omega
theorem dp_gc {s : AS} (hI : Inv s) : ∀ w m, m < w → m < s.2.2.2 → dpf s w m ≤ gc s m + 1 := by
  intro w
  have hn := hI.n40
  induction w with
  | zero => intro m h; omega
  | succ w ih =>
    intro m hw hm
    rw [dpf]
    rcases hI.par hm with e | ⟨p, hp, e, hk⟩
    · rw [if_pos e]; omega
    · rw [if_neg (by rw [e]; exact nI_nm1 (by omega)), e, nI_clamp (by omega)]
      have h1 := ih p (by omega) (by omega)
      have h2 := gc_mono s (show p + 1 ≤ m by omega)
      have h3 : gc s (p + 1) = gc s p + 1 := by
        show gc s p + (if s.1 p 1 = 0 then 1 else 0) = _
        rw [if_pos hk]
      omega
theorem g40 : ∀ g, g < 41 → (40 - g) * (4 * g + 35) ≤ 2376 := by decide
theorem datL_len {s : AS} (hI : Inv s) (hlen : ∀ q, q < 40 → (s.2.2.1 q 0).length ≤ 30 ∧ (s.2.2.1 q 1).length ≤ 12) : ∀ j, j ≤ s.2.2.2 → (datL s j).length ≤ mc s j * (4 * gc s s.2.2.2 + 35) := by
  have hn := hI.n40
  intro j
  induction j with
  | zero => intro _; simp [datL]
  | succ j ih =>
    intro hj
    have h1 := ih (by omega)
    unfold datL mc
    by_cases c : mst s j
    · rw [if_pos c, if_pos c, List.length_append, Nat.add_mul, Nat.one_mul]
      have h2 := line_len hI (m := j) (by omega) (hlen j (by omega)) c.1
      have h3 := dp_gc hI 40 j (by omega) (by omega)
      have h4 := gc_mono s (show j ≤ s.2.2.2 by omega)
      have h5 : dpt s j ≤ gc s s.2.2.2 + 1 := Nat.le_trans h3 (by omega)
      omega
    · rw [if_neg c, if_neg c]
      simp
      omega
theorem datL_le {s : AS} (hI : Inv s) (hlen : ∀ q, q < 40 → (s.2.2.1 q 0).length ≤ 30 ∧ (s.2.2.1 q 1).length ≤ 12) : (datL s s.2.2.2).length ≤ 2376 := by
  have hn := hI.n40
  have h1 := datL_len hI hlen s.2.2.2 (Nat.le_refl _)
  have h2 := gm_le s s.2.2.2
  have h3 := g40 (gc s s.2.2.2) (by omega)
  have h4 : mc s s.2.2.2 * (4 * gc s s.2.2.2 + 35) ≤ (40 - gc s s.2.2.2) * (4 * gc s s.2.2.2 + 35) := Nat.mul_le_mul_right _ (by omega)
  omega
theorem datL_mono (s : AS) {a b : Nat} (h : a ≤ b) : (datL s a).length ≤ (datL s b).length := by
  induction h with
  | refl => exact Nat.le_refl _
  | step _ ih =>
    refine Nat.le_trans ih ?_
    simp only [datL, List.length_append]
    omega
