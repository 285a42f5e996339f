/-! field -/
def sT (s : AS) (p k nm f pi : Int32) : AS := sA (sA (sA (sA (sA (sA (sA (sA (sA s s.2.2.2 0 (nI s.2.2.2)) s.2.2.2 2 p) s.2.2.2 1 k) s.2.2.2 3 nm) s.2.2.2 4 f) s.2.2.2 10 pi) s.2.2.2 23 3) s.2.2.2 25 800) s.2.2.2 26 160
def sN (s : AS) (p k nm f pi : Int32) : AS := ((sT s p k nm f pi).1, s.2.1, s.2.2.1, s.2.2.2 + 1)
def cT (σ : SG) (n : Nat) (p k nm f pi : Int32) : SG := uA (uA (uA (uI (uI (uI (uI (uI (uI σ (3 + 6 * n) 0 (nI n)) (3 + 6 * n) 2 p) (3 + 6 * n) 1 k) (3 + 6 * n) 3 nm) (3 + 6 * n) 4 f) (3 + 6 * n) 10 pi) (3 + 6 * n + 1) 3 3) (3 + 6 * n + 1) 5 800) (3 + 6 * n + 1) 6 160
def cN (σ : SG) (n : Nat) (p k nm f pi : Int32) : SG := uI (cT σ n p k nm f pi) 1 1 (nI (n + 1))
theorem sN_o {s : AS} {p k nm f pi : Int32} {q j : Nat} (h : q ≠ s.2.2.2 ∨ (4 < j ∧ j ≠ 10 ∧ j ≠ 23 ∧ j ≠ 25 ∧ j ≠ 26)) : (sN s p k nm f pi).1 q j = s.1 q j := by
  simp only [sN, sT, sA]
  rw [if_neg (by omega), if_neg (by omega), if_neg (by omega), if_neg (by omega), if_neg (by omega), if_neg (by omega), if_neg (by omega), if_neg (by omega), if_neg (by omega)]
theorem sN_v (s : AS) (p k nm f pi : Int32) : (sN s p k nm f pi).1 s.2.2.2 0 = nI s.2.2.2 ∧ (sN s p k nm f pi).1 s.2.2.2 1 = k ∧ (sN s p k nm f pi).1 s.2.2.2 2 = p ∧ (sN s p k nm f pi).1 s.2.2.2 3 = nm ∧ (sN s p k nm f pi).1 s.2.2.2 4 = f ∧ (sN s p k nm f pi).1 s.2.2.2 10 = pi ∧ (sN s p k nm f pi).1 s.2.2.2 23 = 3 ∧ (sN s p k nm f pi).1 s.2.2.2 25 = 800 ∧ (sN s p k nm f pi).1 s.2.2.2 26 = 160 := by
  refine ⟨?_, ?_, ?_, ?_, ?_, ?_, ?_, ?_, ?_⟩ <;> simp [sN, sT, sA]
theorem RC.N {σ : SG} {s : AS} (h : RC σ s) (hn : s.2.2.2 < 40) (p k nm f pi : Int32) : RC (cN σ s.2.2.2 p k nm f pi) (sN s p k nm f pi) := by
  have h1 : RC (cT σ s.2.2.2 p k nm f pi) (sT s p k nm f pi) := ((((((((h.I hn (by omega) _).I hn (by omega) _).I hn (by omega) _).I hn (by omega) _).I hn (by omega) _).I hn (by omega) _).T hn (by omega) _).T hn (by omega) _).T hn (by omega) _
  have hq : sbut [1] (cT σ s.2.2.2 p k nm f pi) (cN σ s.2.2.2 p k nm f pi) := sbut.uI (by simp)
  refine ⟨⟨show s.2.2.2 + 1 ≤ 40 by omega, uI_at _ _ _ _⟩, fun i hi => (h1.F hi).cong (fun k _ _ => hq.ag (by simp <;> omega)) rfl rfl rfl, ⟨h1.view.ag (hq.ag (by simp)), h1.res.ag (hq.ag (by simp)), h1.upw.ag (hq.ag (by simp))⟩, ⟨h1.fai.cong (hq.ag (by simp)) (hq.ag (by simp)) rfl, h1.dat.cong (hq.ag (by simp)) (hq.ag (by simp)) rfl, h1.inp.cong (hq.ag (by simp)) (hq.ag (by simp)) rfl⟩, h1.made.cong (fun q _ _ => hq.ag (by simp <;> omega)) rfl, h1.kept.cong (fun q _ _ => hq.ag (by simp <;> omega)) rfl⟩
theorem cN_fc {σ : SG} {n : Nat} (hn : n < 40) {p k nm f pi : Int32} : fc σ (cN σ n p k nm f pi) :=
  (((((((((fc.I (by omega)).tr (fc.I (by omega))).tr (fc.I (by omega))).tr (fc.I (by omega))).tr (fc.I (by omega))).tr (fc.I (by omega))).tr (fc.A (by omega))).tr (fc.A (by omega))).tr (fc.A (by omega))).tr (fc.I (by omega))
def mN (σ : SG) (n : Nat) (p k nm f pi : Int32) : SG := uI (uA (uB (uB (uA (uA (uA (uA (uA (uA (uA (uA σ 276 n k) 277 n p) 278 n nm) 279 n f) 280 n 800) 281 n 160) 286 n pi) 289 (5 * n + 3) 3) 290 n (-999999999999)) 291 n 999999999999) 292 n (-1)) 275 1 (nI (n + 1))
theorem mN_fm {σ : SG} {n : Nat} {p k nm f pi : Int32} : fm σ (mN σ n p k nm f pi) :=
  (((((((((((fm.A (by omega)).tr (fm.A (by omega))).tr (fm.A (by omega))).tr (fm.A (by omega))).tr (fm.A (by omega))).tr (fm.A (by omega))).tr (fm.A (by omega))).tr (fm.A (by omega))).tr (fm.B (by omega))).tr (fm.B (by omega))).tr (fm.A (by omega))).tr fm.I
theorem mN_A {σ : SG} {n : Nat} {p k nm f pi : Int32} {q c : Nat} (h : (q ≠ 276 ∧ q ≠ 277 ∧ q ≠ 278 ∧ q ≠ 279 ∧ q ≠ 280 ∧ q ≠ 281 ∧ q ≠ 286 ∧ q ≠ 289 ∧ q ≠ 292) ∨ (q ≠ 289 ∧ c ≠ n) ∨ (q = 289 ∧ c ≠ 5 * n + 3)) : (mN σ n p k nm f pi).2.2.1 q c = σ.2.2.1 q c := by
  show (uA _ 292 n (-1)).2.2.1 q c = _
  rw [uA_ne _ _ _ _ (by omega)]
  show (uA _ 289 (5 * n + 3) 3).2.2.1 q c = _
  rw [uA_ne _ _ _ _ (by omega), uA_ne _ _ _ _ (by omega), uA_ne _ _ _ _ (by omega), uA_ne _ _ _ _ (by omega), uA_ne _ _ _ _ (by omega), uA_ne _ _ _ _ (by omega), uA_ne _ _ _ _ (by omega), uA_ne _ _ _ _ (by omega)]
theorem mN_v (σ : SG) (n : Nat) (p k nm f pi : Int32) : (mN σ n p k nm f pi).2.2.1 276 n = k ∧ (mN σ n p k nm f pi).2.2.1 277 n = p ∧ (mN σ n p k nm f pi).2.2.1 278 n = nm ∧ (mN σ n p k nm f pi).2.2.1 279 n = f ∧ (mN σ n p k nm f pi).2.2.1 280 n = 800 ∧ (mN σ n p k nm f pi).2.2.1 281 n = 160 ∧ (mN σ n p k nm f pi).2.2.1 286 n = pi ∧ (mN σ n p k nm f pi).2.2.1 289 (5 * n + 3) = 3 ∧ (mN σ n p k nm f pi).2.2.1 292 n = -1 ∧ (mN σ n p k nm f pi).2.2.2 290 n = -999999999999 ∧ (mN σ n p k nm f pi).2.2.2 291 n = 999999999999 := by
  refine ⟨?_, ?_, ?_, ?_, ?_, ?_, ?_, ?_, ?_, ?_, ?_⟩ <;> simp [mN, uA, uB, uI]
theorem RM.N {σ : SG} {s : AS} (h : RM σ s) (hI : Inv s) (hlen : ∀ q, q < 40 → (s.2.2.1 q 0).length ≤ 30 ∧ (s.2.2.1 q 1).length ≤ 12) (hn : s.2.2.2 < 40) (p k nm f pi pi' : Int32) (hp : pk k → pi' = pi) : RM (mN σ s.2.2.2 p k nm f pi') (sN s p k nm f pi) := by
  obtain ⟨v0, v1, v2, v3, v4, v10, v23, v25, v26⟩ := sN_v s p k nm f pi
  obtain ⟨w0, w1, w2, w3, w4, w5, w6, w7, w8, w9, w10⟩ := mN_v σ s.2.2.2 p k nm f pi'
  have hfr := hI.new (Nat.le_refl _) hn
  have h275 : ∀ j, j ≠ 1 → (mN σ s.2.2.2 p k nm f pi').1 275 j = σ.1 275 j := fun j hj => uI_ne _ _ _ _ (by omega)
  have hB : ∀ k' c, c ≠ s.2.2.2 → (mN σ s.2.2.2 p k nm f pi').2.2.2 k' c = σ.2.2.2 k' c := fun k' c hc => by
    show (uB (uB _ 290 _ _) 291 _ _).2.2.2 k' c = _
    simp only [uB]
    rw [if_neg (by omega), if_neg (by omega)]
    rfl
  refine ⟨uI_at _ _ _ _, fun i hi => ?_, fun i hi => ?_, ⟨?_, ?_, ?_⟩, ?_, ?_⟩
  · have hi' : i < s.2.2.2 + 1 := hi
    by_cases e : i = s.2.2.2
    · subst e
      unfold RMF
      rw [v1, v2, v3, v4, v25, v26, v10, w0, w1, w2, w3, w4, w5, w6, w8, w9, w10, sN_o (q := s.2.2.2) (j := 13) (Or.inr (by omega)), hfr.2.2.1]
      refine ⟨⟨rfl, rfl, rfl, rfl, rfl, rfl⟩, hp, ⟨hfr.2.2.2.2.2.1.symm, hfr.2.2.2.2.2.2.1.symm⟩, rfl, fun q => absurd q.1 (by decide), fun q => ?_⟩
      rcases q with q | q <;> exact absurd q (by decide)
    · refine (h.F (show i < s.2.2.2 by omega)).cong (fun k' _ _ _ _ _ _ n3 => mN_A (Or.inr (Or.inl ⟨n3, e⟩))) ⟨hB _ _ e, hB _ _ e⟩ (by funext j; exact sN_o (Or.inl e)) rfl (fun ht => ?_)
      obtain ⟨x, y, q1, q2, q3, q4, _, _⟩ := (hI.O (show i < s.2.2.2 by omega)).2.1 ht
      rw [q3, q4, nI_clamp (by omega), nI_clamp (by omega)]
      exact ⟨sN_o (Or.inl (by omega)), sN_o (Or.inl (by omega))⟩
  · by_cases e : i = s.2.2.2
    · subst e
      obtain ⟨⟨d1, d2, d3, d4⟩, d5, ⟨d6, d7⟩, ⟨d8, d9⟩⟩ := h.W hi
      refine ⟨⟨?_, ?_, ?_, ?_⟩, fun j hj => ?_, ⟨?_, fun j hj => ?_⟩, ⟨?_, fun j hj => ?_⟩⟩
      · rw [mN_A (Or.inl (by omega)), sN_o (Or.inr (by omega))]; exact d1
      · rw [mN_A (Or.inl (by omega)), sN_o (Or.inr (by omega))]; exact d2
      · rw [mN_A (Or.inl (by omega)), sN_o (Or.inr (by omega))]; exact d3
      · rw [mN_A (Or.inl (by omega)), sN_o (Or.inr (by omega))]; exact d4
      · by_cases e3 : j = 3
        · subst e3
          rw [w7, v23]
        · rw [mN_A (Or.inr (Or.inr (by omega))), sN_o (Or.inr (by omega))]; exact d5 j hj
      · rw [mN_A (Or.inl (by omega))]; exact d6
      · rw [mN_A (Or.inl (by omega))]; exact d7 j hj
      · rw [mN_A (Or.inl (by omega))]; exact d8
      · rw [mN_A (Or.inl (by omega))]; exact d9 j hj
    · exact (h.W hi).cong (fun k' _ _ _ _ n3 => mN_A (Or.inr (Or.inl ⟨n3, e⟩))) (fun j _ => mN_A (Or.inl (by omega))) (fun j _ => mN_A (Or.inl (by omega))) (fun j _ => mN_A (Or.inr (Or.inr (by omega)))) (by funext j; exact sN_o (Or.inl e)) rfl
  · exact h.fai.cong (h275 _ (by omega)) (by funext c; exact mN_A (Or.inl (by omega))) rfl
  · exact h.dat.cong (h275 _ (by omega)) (by funext c; exact mN_A (Or.inl (by omega))) rfl
  · exact h.inp.cong (h275 _ (by omega)) (by funext c; exact mN_A (Or.inl (by omega))) rfl
  · exact h.made.cong (h275 _ (by omega)) (by funext c; exact mN_A (Or.inl (by omega))) rfl
  · exact h.kept.cong (h275 _ (by omega)) (by funext c; exact mN_A (Or.inl (by omega))) rfl
theorem Inv.N {s : AS} (h : Inv s) (hn : s.2.2.2 < 40) {p k nm f pi : Int32} (hp : p = -1 ∨ ∃ a, a < s.2.2.2 ∧ p = nI a ∧ s.1 a 1 = 0) (hk : ∃ c, c ≤ 5 ∧ k = nI c) (hnm : ∃ c, c ≤ 999 ∧ nm = nI c) (hpi : (k = 2 → pi = 0) ∧ (k = 3 ∨ k = 4 → pi = -1)) (hf : (f = nI s.2.2.2 ∧ ∀ i, i < s.2.2.2 → ¬ nmP s (pfv s p) nm i) ∨ ∃ r, r < s.2.2.2 ∧ f = nI r ∧ s.1 r 1 = k ∧ nmP s (pfv s p) nm r ∧ ∀ i, i < r → ¬ nmP s (pfv s p) nm i) : Inv (sN s p k nm f pi) := by
  obtain ⟨v0, v1, v2, v3, v4, v10, v23, v25, v26⟩ := sN_v s p k nm f pi
  have hfr := h.new (Nat.le_refl _) hn
  have o : ∀ q j, q < s.2.2.2 → (sN s p k nm f pi).1 q j = s.1 q j := fun q j hq => sN_o (Or.inl (by omega))
  have hpf : ∀ q, q < s.2.2.2 → pf (sN s p k nm f pi) q = pf s q := fun q hq => by
    unfold pf
    rw [o q 2 hq]
    rcases h.par hq with a | ⟨b, hb, a, _⟩
    · rw [if_pos a, if_pos a]
    · rw [a, if_neg (nI_nm1 (by omega)), if_neg (nI_nm1 (by omega)), nI_clamp (by omega), o b 4 (by omega)]
  have hpn : pf (sN s p k nm f pi) s.2.2.2 = pfv s p := by
    unfold pf pfv
    rw [v2]
    rcases hp with a | ⟨b, hb, a, _⟩
    · rw [if_pos a, if_pos a]
    · rw [a, if_neg (nI_nm1 (by omega)), if_neg (nI_nm1 (by omega)), nI_clamp (by omega)]
      exact sN_o (Or.inl (by omega))
  have hnew : ∀ q, q < s.2.2.2 → (f = s.1 q 4 ↔ nm = s.1 q 3 ∧ pfv s p = pf s q) := fun q hq => by
    rcases hf with ⟨rfl, hno⟩ | ⟨r, hr, rfl, _, hP, hmin⟩
    · refine ⟨fun e => ?_, fun e => absurd ⟨e.1.symm, e.2.symm⟩ (hno q hq)⟩
      obtain ⟨g, g1, g2, _⟩ := h.fst hq
      rw [g2, nI_eq (by omega) (by omega)] at e
      omega
    · have hr4 : s.1 r 4 = nI r := by
        obtain ⟨g, g1, g2, g3, _⟩ := h.fst hr
        have hgn : g < s.2.2.2 := by omega
        have := (h.can hgn hr).mp (by rw [g3, g2])
        have hPg : nmP s (pfv s p) nm g := ⟨this.1.trans hP.1, this.2.trans hP.2⟩
        rcases Nat.lt_or_ge g r with z | z
        · exact absurd hPg (hmin g z)
        · rw [g2, show g = r by omega]
      rw [← hr4, h.can hr hq, hP.1, hP.2]
  refine ⟨⟨show s.2.2.2 + 1 ≤ 40 by omega, fun i hi => ?_⟩, fun i hi => ?_, fun i hi h4 => ?_, fun i hi => ?_⟩
  · have hi' : i < s.2.2.2 + 1 := hi
    by_cases e : i = s.2.2.2
    · subst e
      refine ⟨v0, by rw [v1]; exact hk, ?_, by rw [v3]; exact hnm, ?_, fun q hq => ?_⟩
      · rw [v2]
        rcases hp with a | ⟨b, hb, a, c⟩
        · exact Or.inl a
        · exact Or.inr ⟨b, hb, a, by rw [o b 1 hb]; exact c⟩
      · rw [v4, v1]
        rcases hf with ⟨rfl, hno⟩ | ⟨r, hr, rfl, hkr, hP, hmin⟩
        · exact ⟨s.2.2.2, Nat.le_refl _, rfl, v4, v1⟩
        · refine ⟨r, by omega, rfl, ?_, by rw [o r 1 hr]; exact hkr⟩
          rw [o r 4 hr]
          exact ((hnew r hr).mpr ⟨hP.1.symm, hP.2.symm⟩).symm
      · have hq' : q < s.2.2.2 + 1 := hq
        by_cases e : q = s.2.2.2
        · subst e; exact ⟨fun _ => ⟨rfl, rfl⟩, fun _ => rfl⟩
        · rw [v4, v3, hpn, o q 4 (by omega), o q 3 (by omega), hpf q (by omega)]
          exact hnew q (by omega)
    · have hi2 : i < s.2.2.2 := by omega
      obtain ⟨a, b, c, d, e', g⟩ := h.1.2 i hi2
      refine ⟨by rw [o i 0 hi2]; exact a, by rw [o i 1 hi2]; exact b, ?_, by rw [o i 3 hi2]; exact d, ?_, fun q hq => ?_⟩
      · rw [o i 2 hi2]
        rcases c with c | ⟨x, h1, h2, h3⟩
        · exact Or.inl c
        · exact Or.inr ⟨x, h1, h2, by rw [o x 1 (by omega)]; exact h3⟩
      · rw [o i 4 hi2, o i 1 hi2]
        obtain ⟨x, h1, h2, h3, h5⟩ := e'
        exact ⟨x, h1, h2, by rw [o x 4 (by omega)]; exact h3, by rw [o x 1 (by omega)]; exact h5⟩
      · have hq' : q < s.2.2.2 + 1 := hq
        by_cases e : q = s.2.2.2
        · subst e
          rw [v4, v3, hpn, o i 4 hi2, o i 3 hi2, hpf i hi2]
          have := hnew i hi2
          exact ⟨fun z => ⟨(this.mp z.symm).1.symm, (this.mp z.symm).2.symm⟩, fun z => (this.mpr ⟨z.1.symm, z.2.symm⟩).symm⟩
        · rw [o i 4 hi2, o i 3 hi2, o q 4 (by omega), o q 3 (by omega), hpf q (by omega), hpf i hi2]
          exact g q (by omega)
  · have hi' : i < s.2.2.2 + 1 := hi
    by_cases e : i = s.2.2.2
    · subst e
      have h21 : (sN s p k nm f pi).1 s.2.2.2 21 = 0 := by rw [sN_o (Or.inr (by omega))]; exact hfr.2.2.2.2.1 1 (by omega)
      have h13 : (sN s p k nm f pi).1 s.2.2.2 13 = -1 := by rw [sN_o (Or.inr (by omega))]; exact hfr.2.2.1
      have hL0 : (sN s p k nm f pi).2.2.1 s.2.2.2 0 = [] := hfr.2.2.2.2.2.2.2.1
      have hL1 : (sN s p k nm f pi).2.2.1 s.2.2.2 1 = [] := hfr.2.2.2.2.2.2.2.2
      unfold VI OI
      rw [h21, h13, hL0, hL1, v1, v10, v23]
      exact ⟨⟨fun _ => rfl, ⟨0, by omega, rfl⟩, ⟨3, by omega, rfl⟩, fun _ => by simp, fun q => Or.inl (hpi.1 q), fun q => Or.inl (hpi.2 q), by simp⟩, Or.inl rfl, fun q => absurd q.1 (by decide), fun q => absurd q (by decide)⟩
    · have hi2 : i < s.2.2.2 := by omega
      refine ⟨?_, ?_⟩
      · have := h.V hi2
        unfold VI at this ⊢
        rw [o i 1 hi2, o i 21 hi2, o i 23 hi2, o i 10 hi2]
        exact this
      · obtain ⟨h1, h2, h3⟩ := h.O hi2
        unfold OI
        rw [o i 1 hi2, o i 4 hi2, o i 13 hi2, o i 14 hi2, o i 15 hi2]
        refine ⟨h1, fun z => ?_, fun z => ?_⟩
        · obtain ⟨x, y, q1, q2, q3, q4, q5, q6⟩ := h2 z
          exact ⟨x, y, show x < s.2.2.2 + 1 by omega, show y < s.2.2.2 + 1 by omega, q3, q4, by rw [o x 1 q1]; exact q5, by rw [o y 1 q2]; exact q6⟩
        · obtain ⟨x, q1, q2⟩ := h3 z
          exact ⟨x, show x < s.2.2.2 + 1 by omega, q2⟩
  · have hi' : s.2.2.2 + 1 ≤ i := hi
    have := h.new (show s.2.2.2 ≤ i by omega) h4
    have e : (sN s p k nm f pi).1 i = s.1 i := by funext j; exact sN_o (Or.inl (by omega))
    unfold Fr at this ⊢
    rw [e]
    exact this
  · have hi' : i < s.2.2.2 + 1 := hi
    rw [sN_o (Or.inr (by omega))]
    by_cases e : i = s.2.2.2
    · rw [e]; exact Or.inl (hfr.2.2.2.2.1 7 (by omega))
    · exact h.side (by omega)
theorem e_begin {N h : Nat} {σ : SG} {n : Nat} (hn : n < 40) (p k nm f : Int32) : DX2_begin N (h + (3 + 6 * n)) (nI n) p k nm f (HH h σ) = some ((), HH h (cT σ n p k nm f (if k = 3 ∨ k = 4 then -1 else 0))) := by
  have h3 : (3 : Nat) < ln (3 + 6 * n + 1) := by rw [ln_T hn]; omega
  have h5 : (5 : Nat) < ln (3 + 6 * n + 1) := by rw [ln_T hn]; omega
  have h6 : (6 : Nat) < ln (3 + 6 * n + 1) := by rw [ln_T hn]; omega
  have hk : (uI (uI (uI (uI (uI σ (3 + 6 * n) 0 (nI n)) (3 + 6 * n) 2 p) (3 + 6 * n) 1 k) (3 + 6 * n) 3 nm) (3 + 6 * n) 4 f).1 (3 + 6 * n) 1 = k := by simp [uI]
  simp only [DX2_begin, DX2_begin_40, DX2_hasOptions, Option.bind_some, bRT, bRW, bWW, bW, le0, ne10, if_true, if_false, not_true_eq_false, not_false_eq_true, uI_at, uA_1, uB_1, uG_1, uI_2, k1 hn, p_1_0 (kd_F hn), p_1_2 (kd_F hn), p_1_1 (kd_F hn), p_1_3 (kd_F hn), p_1_4 (kd_F hn), p_1_10 (kd_F hn), g_1_1 (kd_F hn), hk, g7 hn, show (3 : Int32) = nI 3 from rfl, show (5 : Int32) = nI 5 from rfl, show (6 : Int32) = nI 6 from rfl, sN0 (kd_T hn) h3, sN0 (kd_T hn) h5, sN0 (kd_T hn) h6]
  by_cases a : k = nI 3
  · simp only [a, true_or, Option.bind_some, bRT, bRW, bWW, bW, le0, ne10, if_true, if_false, not_true_eq_false, not_false_eq_true, uI_at, uA_1, uB_1, uG_1, uI_2]
    rfl
  · by_cases b : k = 4
    · simp only [b, or_true, Option.bind_some, bRT, bRW, bWW, bW, le0, ne10, if_true, if_false, not_true_eq_false, not_false_eq_true, uI_at, uA_1, uB_1, uG_1, uI_2]
      split <;> rfl
    · simp only [a, b, or_self, Option.bind_some, bRT, bRW, bWW, bW, le0, ne10, if_true, if_false, not_true_eq_false, not_false_eq_true, uI_at, uA_1, uB_1, uG_1, uI_2]
      rfl
theorem op_field {N h : Nat} (hN : 10000 ≤ N) {σ : SG} {s : AS} (hS : St σ s) (p k nm : Int32) : Out h σ s ex12 (DX9_field N h p k nm (HH h σ)) (fun σ' => DX10_field N (h + 275) p k nm (HH h σ')) := by
  have hS' := hS
  obtain ⟨hC, hM, hI⟩ := hS
  have hn := hI.n40
  have l0 : (0 : Int64) = (0 : Int32).toInt64 := rfl
  have l5 : (5 : Int64) = (5 : Int32).toInt64 := rfl
  have l9 : (999 : Int64) = (999 : Int32).toInt64 := rfl
  by_cases hp0 : p = -1 ∨ ∃ a, a < s.2.2.2 ∧ p = nI a
  · have hcl : DX9_field N h p k nm (HH h σ) = DX9_field_20 N h p k nm (pfv s p) (HH h σ) := by
      rcases hp0 with rfl | ⟨a, ha, rfl⟩
      · simp only [DX9_field, o_ck, o_0, o_1, o_2, o_3, o_4, o_5, o_6, t_ck, t_0, v_ck, v_0, q_ck, q_0, q_1, q_2, q_3, q_4, wr_ck, wr_0, wr_1, wr_2, rd_ck, rd_0, rd_1, Option.bind_some, bRT, bRW, bWW, bW, le0, ne10, if_true, if_false, not_true_eq_false, not_false_eq_true, uI_at, uA_1, uB_1, uG_1, uI_2, pfv_m1]
      · simp only [DX9_field, o_ck, o_0, o_1, o_2, o_3, o_4, o_5, o_6, t_ck, t_0, v_ck, v_0, q_ck, q_0, q_1, q_2, q_3, q_4, wr_ck, wr_0, wr_1, wr_2, rd_ck, rd_0, rd_1, Option.bind_some, bRT, bRW, bWW, bW, le0, ne10, if_true, if_false, not_true_eq_false, not_false_eq_true, uI_at, uA_1, uB_1, uG_1, uI_2, nI_nm1 (show a < 2 ^ 31 by omega), e_tg hC ha, c_4 hC (show a < 40 by omega), pfv_n s (show a < 2 ^ 31 by omega)]
    have hrf : ∀ σ', RM σ' s → DX10_field N (h + 275) p k nm (HH h σ') = DX10_field_18 N (h + 275) p k nm (h + 275) (HH h σ') := fun σ' hM' => by
      rcases hp0 with rfl | ⟨a, ha, rfl⟩
      · simp only [DX10_field, r_ck, r_0, r_1, r_2, r_3, r_4, r_5, r_6, r_7, r_8, r_9, r_10, r_11, r_12, r_13, r_14, r_15, r_16, r_17, r_18, r_19, r_20, r_21, r_22, r_23, r_24, r_25, r_26, r_27, r_28, r_29, r_30, r_31, r_32, r_33, r_34, r_35, r_36, r_37, rp_0, rp_1, rp_26, rp_28, rp_30, rp_33, rp_35, rp_37, Option.bind_some, bRT, bRW, bWW, bW, le0, ne10, if_true, if_false, not_true_eq_false, not_false_eq_true, uI_at, uA_1, uB_1, uG_1, uI_2]
      · simp only [DX10_field, r_ck, r_0, r_1, r_2, r_3, r_4, r_5, r_6, r_7, r_8, r_9, r_10, r_11, r_12, r_13, r_14, r_15, r_16, r_17, r_18, r_19, r_20, r_21, r_22, r_23, r_24, r_25, r_26, r_27, r_28, r_29, r_30, r_31, r_32, r_33, r_34, r_35, r_36, r_37, rp_0, rp_1, rp_26, rp_28, rp_30, rp_33, rp_35, rp_37, Option.bind_some, bRT, bRW, bWW, bW, le0, ne10, if_true, if_false, not_true_eq_false, not_false_eq_true, uI_at, uA_1, uB_1, uG_1, uI_2, nI_nm1 (show a < 2 ^ 31 by omega), e_no hM' hn ha]
    by_cases hg : ((0 : Int32) ≤ k ∧ k ≤ (5 : Int32)) ∧ ((0 : Int32) ≤ nm ∧ nm ≤ (999 : Int32)) ∧ (p = -1 ∨ ∃ a, a < s.2.2.2 ∧ p = nI a ∧ s.1 a 1 = 0)
    · obtain ⟨g1, g2, g3⟩ := hg
      have k0 : ¬ k < 0 := Int32.not_lt.mpr g1.1
      have k5 : ¬ (5 : Int32) < k := Int32.not_lt.mpr g1.2
      have n0 : ¬ nm < 0 := Int32.not_lt.mpr g2.1
      have hcl2 : DX9_field N h p k nm (HH h σ) = DX9_field_77 N h p k nm (pfv s p) (HH h σ) := by
        rw [hcl]
        rcases g3 with rfl | ⟨a, ha, rfl, hk0⟩
        · simp only [DX9_field_20, o_ck, o_0, o_1, o_2, o_3, o_4, o_5, o_6, t_ck, t_0, v_ck, v_0, q_ck, q_0, q_1, q_2, q_3, q_4, wr_ck, wr_0, wr_1, wr_2, rd_ck, rd_0, rd_1, Option.bind_some, bRT, bRW, bWW, bW, le0, ne10, if_true, if_false, not_true_eq_false, not_false_eq_true, uI_at, uA_1, uB_1, uG_1, uI_2, k0, k5, n0, g2.2]
        · simp only [DX9_field_20, o_ck, o_0, o_1, o_2, o_3, o_4, o_5, o_6, t_ck, t_0, v_ck, v_0, q_ck, q_0, q_1, q_2, q_3, q_4, wr_ck, wr_0, wr_1, wr_2, rd_ck, rd_0, rd_1, Option.bind_some, bRT, bRW, bWW, bW, le0, ne10, if_true, if_false, not_true_eq_false, not_false_eq_true, uI_at, uA_1, uB_1, uG_1, uI_2, k0, k5, n0, g2.2, nI_nm1 (show a < 2 ^ 31 by omega), e_tg hC ha, c_1 hC (show a < 40 by omega), hk0]
      have hrf2 : ∀ σ', RM σ' s → DX10_field N (h + 275) p k nm (HH h σ') = DX10_field_60 N (h + 275) p k nm (h + 275) 0 (HH h σ') := fun σ' hM' => by
        rw [hrf σ' hM']
        rcases g3 with rfl | ⟨a, ha, rfl, hk0⟩
        · simp only [DX10_field_18, DX10_field_59, r_ck, r_0, r_1, r_2, r_3, r_4, r_5, r_6, r_7, r_8, r_9, r_10, r_11, r_12, r_13, r_14, r_15, r_16, r_17, r_18, r_19, r_20, r_21, r_22, r_23, r_24, r_25, r_26, r_27, r_28, r_29, r_30, r_31, r_32, r_33, r_34, r_35, r_36, r_37, rp_0, rp_1, rp_26, rp_28, rp_30, rp_33, rp_35, rp_37, Option.bind_some, bRT, bRW, bWW, bW, le0, ne10, if_true, if_false, not_true_eq_false, not_false_eq_true, uI_at, uA_1, uB_1, uG_1, uI_2, l0, l5, l9, ii_eq, g1, g2, and_self, ltm0]
        · simp only [DX10_field_18, DX10_field_59, r_ck, r_0, r_1, r_2, r_3, r_4, r_5, r_6, r_7, r_8, r_9, r_10, r_11, r_12, r_13, r_14, r_15, r_16, r_17, r_18, r_19, r_20, r_21, r_22, r_23, r_24, r_25, r_26, r_27, r_28, r_29, r_30, r_31, r_32, r_33, r_34, r_35, r_36, r_37, rp_0, rp_1, rp_26, rp_28, rp_30, rp_33, rp_35, rp_37, Option.bind_some, bRT, bRW, bWW, bW, le0, ne10, if_true, if_false, not_true_eq_false, not_false_eq_true, uI_at, uA_1, uB_1, uG_1, uI_2, l0, l5, l9, ii_eq, g1, g2, and_self, nI_pos (show a < 2 ^ 31 by omega), m_kind hM' hn ha, hk0]
      have hfn := e_fn (h := h) hN hC hI (pfv s p) nm
      have hlk := fun σ' (hM' : RM σ' s) => f_lk (h := h) hN (hM'.thr 0) hI p nm hp0
      have hlen : ∀ q, q < 40 → (s.2.2.1 q 0).length ≤ 30 ∧ (s.2.2.1 q 1).length ≤ 12 := fun q hq => hC.len hq
      have hk6 : ∃ c, c ≤ 5 ∧ k = nI c := rng (n := 5) (by omega) k0 k5
      have hnm : ∃ c, c ≤ 999 ∧ nm = nI c := rng (n := 999) (by omega) n0 (Int32.not_lt.mpr g2.2)
      -- both get as far as adding
      have add : ∀ (f f0 : Int32), (s.2.2.2 = 40 ∨ (f0 = -1 ∧ f = nI s.2.2.2 ∧ ∀ i, i < s.2.2.2 → ¬ nmP s (pfv s p) nm i) ∨ ∃ r, r < s.2.2.2 ∧ f0 = nI r ∧ f = nI r ∧ s.1 r 1 = k ∧ nmP s (pfv s p) nm r ∧ ∀ i, i < r → ¬ nmP s (pfv s p) nm i) → DX9_field N h p k nm (HH h σ) = DX9_field_119 N h p k nm f0 (HH h σ) → (∀ σ', RM σ' s → DX10_field N (h + 275) p k nm (HH h σ') = DX10_field_101 N (h + 275) p k nm f0 (h + 275) (HH h (uI σ' 275 0 0))) → Out h σ s ex12 (DX9_field N h p k nm (HH h σ)) (fun σ' => DX10_field N (h + 275) p k nm (HH h σ')) := fun f f0 hf h1 h2 => by
        by_cases h40 : s.2.2.2 = 40
        · refine Out.thr hS' 4 (by omega) 0 ?_ (fun σ' hM' => ?_)
          · rw [h1]
            simp only [DX9_field_119, DX6_add, o_ck, o_0, o_1, o_2, o_3, o_4, o_5, o_6, t_ck, t_0, v_ck, v_0, q_ck, q_0, q_1, q_2, q_3, q_4, wr_ck, wr_0, wr_1, wr_2, rd_ck, rd_0, rd_1, Option.bind_some, bRT, bRW, bWW, bW, le0, ne10, if_true, if_false, not_true_eq_false, not_false_eq_true, uI_at, uA_1, uB_1, uG_1, uI_2, c_n hC, h40, al_3 (k := 2) rfl]
            rfl
          · refine (h2 σ' hM').trans ?_
            have : σ'.1 275 1 = 40 := by rw [hM'.nn, h40]; rfl
            simp only [DX10_field_101, DX10_field_115, r_ck, r_0, r_1, r_2, r_3, r_4, r_5, r_6, r_7, r_8, r_9, r_10, r_11, r_12, r_13, r_14, r_15, r_16, r_17, r_18, r_19, r_20, r_21, r_22, r_23, r_24, r_25, r_26, r_27, r_28, r_29, r_30, r_31, r_32, r_33, r_34, r_35, r_36, r_37, rp_0, rp_1, rp_26, rp_28, rp_30, rp_33, rp_35, rp_37, Option.bind_some, bRT, bRW, bWW, bW, le0, ne10, if_true, if_false, not_true_eq_false, not_false_eq_true, uI_at, uA_1, uB_1, uG_1, uI_2, uI_ne σ' 275 0 (0 : Int32) (k' := 275) (j' := 1) (by omega), this, uI_uI, le4]
            rfl
        · have hlt : s.2.2.2 < 40 := by omega
          have hf := hf.resolve_left h40
          have f0c : (f0 = -1 ∧ f = nI s.2.2.2) ∨ (¬ f0 = -1 ∧ ¬ f0 < 0 ∧ f = f0) := by
            rcases hf with ⟨a, b, _⟩ | ⟨r, hr, a, b, _⟩
            · exact Or.inl ⟨a, b⟩
            · exact Or.inr ⟨by rw [a]; exact nI_nm1 (by omega), by rw [a]; exact nI_pos (by omega), by rw [a, b]⟩
          refine ⟨sN s p k nm f (if k = 3 ∨ k = 4 then -1 else 0), cN σ s.2.2.2 p k nm f (if k = 3 ∨ k = 4 then -1 else 0), .inl (nI s.2.2.2), ?_, hC.N hlt _ _ _ _ _, hI.N hlt g3 hk6 hnm ⟨fun q => by rw [q]; decide, fun q => by rw [if_pos q]⟩ ?_, cN_fc hlt, fun σ' hM' => ⟨nI s.2.2.2, mN (uI σ' 275 0 0) s.2.2.2 p k nm f (if k = 2 then 0 else -1), ?_, (hM'.thr 0).N hI hlen hlt _ _ _ _ _ _ ?_, fm.I.tr mN_fm, Or.inl ⟨rfl, ?_⟩⟩⟩
          · rw [h1]
            have hcn : ∀ y, (cT σ s.2.2.2 p k nm f y).1 1 1 = nI s.2.2.2 := fun y => by
              have : sbut [3 + 6 * s.2.2.2, 3 + 6 * s.2.2.2 + 1] σ (cT σ s.2.2.2 p k nm f y) := ((((((((sbut.uI (by simp)).tr (sbut.uI (by simp))).tr (sbut.uI (by simp))).tr (sbut.uI (by simp))).tr (sbut.uI (by simp))).tr (sbut.uI (by simp))).tr (sbut.uA (by simp))).tr (sbut.uA (by simp))).tr (sbut.uA (by simp))
              rw [(this.ag (k := 1) (by simp <;> omega)).1]
              exact hC.nn
            have hh : (¬ nI s.2.2.2 < 0 ∧ s.2.2.2 < 40) = True := eq_true ⟨nI_pos (by omega), hlt⟩
            simp only [DX9_field_119, DX6_add, DX6_add_54, o_ck, o_0, o_1, o_2, o_3, o_4, o_5, o_6, t_ck, t_0, v_ck, v_0, q_ck, q_0, q_1, q_2, q_3, q_4, wr_ck, wr_0, wr_1, wr_2, rd_ck, rd_0, rd_1, Option.bind_some, bRT, bRW, bWW, bW, le0, ne10, if_true, if_false, not_true_eq_false, not_false_eq_true, uI_at, uA_1, uB_1, uG_1, uI_2, c_n hC, nI_pos (show s.2.2.2 < 2 ^ 31 by omega), al_3 (k := 2) rfl, show (nI s.2.2.2 < nI (ln 2)) = True from eq_true (nI_lt (show s.2.2.2 < 40 from hlt) (by decide)), a_3, nI_clamp (show s.2.2.2 < 2 ^ 31 by omega), hlt, true_and, and_self]
            rcases f0c with ⟨a, b⟩ | ⟨a, _, b⟩
            · subst b
              simp only [a, Option.bind_some, bRT, bRW, bWW, bW, le0, ne10, if_true, if_false, not_true_eq_false, not_false_eq_true, uI_at, uA_1, uB_1, uG_1, uI_2, e_begin hlt, g_5_1 (k := 1) rfl, hcn, p_5_1 (k := 1) rfl, nI_1]
              rfl
            · rw [← b] at a ⊢
              simp only [a, Option.bind_some, bRT, bRW, bWW, bW, le0, ne10, if_true, if_false, not_true_eq_false, not_false_eq_true, uI_at, uA_1, uB_1, uG_1, uI_2, e_begin hlt, g_5_1 (k := 1) rfl, hcn, p_5_1 (k := 1) rfl, nI_1]
              rfl
          · rcases hf with ⟨a, b, c⟩ | ⟨r, hr, a, b, c, d, e⟩
            · exact Or.inl ⟨b, c⟩
            · exact Or.inr ⟨r, hr, b, c, d, e⟩
          · refine (h2 σ' hM').trans ?_
            have n1 : σ'.1 275 1 = nI s.2.2.2 := hM'.nn
            have n40 : ¬ nI s.2.2.2 = (40 : Int32) := fun q => h40 ((nI_eq (b := 40) (by omega) (by omega)).mp q)
            have h5 : (5 : Int32) * nI s.2.2.2 + (3 : Int32) = nI (5 * s.2.2.2 + 3) := by rw [n5]; exact nI_add _ 3
            have b276 : s.2.2.2 < ln 276 := hlt
            have b277 : s.2.2.2 < ln 277 := hlt
            have b278 : s.2.2.2 < ln 278 := hlt
            have b279 : s.2.2.2 < ln 279 := hlt
            have b280 : s.2.2.2 < ln 280 := hlt
            have b281 : s.2.2.2 < ln 281 := hlt
            have b286 : s.2.2.2 < ln 286 := hlt
            have b289 : 5 * s.2.2.2 + 3 < ln 289 := show _ < 200 by omega
            have b290 : s.2.2.2 < ln 290 := hlt
            have b291 : s.2.2.2 < ln 291 := hlt
            have b292 : s.2.2.2 < ln 292 := hlt
            have e1 : ∀ x, (uI σ' 275 0 x).1 275 1 = nI s.2.2.2 := fun x => by rw [uI_ne _ _ _ _ (by omega)]; exact n1
            rcases f0c with ⟨a, b⟩ | ⟨_, a, b⟩
            · subst b
              simp only [DX10_field_101, DX10_field_115, DX10_field_175, DX10_field_212, r_ck, r_0, r_1, r_2, r_3, r_4, r_5, r_6, r_7, r_8, r_9, r_10, r_11, r_12, r_13, r_14, r_15, r_16, r_17, r_18, r_19, r_20, r_21, r_22, r_23, r_24, r_25, r_26, r_27, r_28, r_29, r_30, r_31, r_32, r_33, r_34, r_35, r_36, r_37, rp_0, rp_1, rp_26, rp_28, rp_30, rp_33, rp_35, rp_37, Option.bind_some, bRT, bRW, bWW, bW, le0, ne10, if_true, if_false, not_true_eq_false, not_false_eq_true, uI_at, uA_1, uB_1, uG_1, uI_2, e1, n40, uI_uI, a, ltm0, sN0 (k := 276) rfl b276, sN0 (k := 277) rfl b277, sN0 (k := 278) rfl b278, sN0 (k := 279) rfl b279, sN0 (k := 280) rfl b280, sN0 (k := 281) rfl b281, sN0 (k := 286) rfl b286, h5, sN0 (k := 289) rfl b289, sN1 (k := 290) rfl b290, sN1 (k := 291) rfl b291, sN0 (k := 292) rfl b292, nI_1]
              by_cases k2 : k = 2
              · simp only [k2, Option.bind_some, bRT, bRW, bWW, bW, le0, ne10, if_true, if_false, not_true_eq_false, not_false_eq_true, uI_at, uA_1, uB_1, uG_1, uI_2]; rfl
              · simp only [k2, Option.bind_some, bRT, bRW, bWW, bW, le0, ne10, if_true, if_false, not_true_eq_false, not_false_eq_true, uI_at, uA_1, uB_1, uG_1, uI_2]; rfl
            · rw [← b] at a ⊢
              simp only [DX10_field_101, DX10_field_115, DX10_field_175, DX10_field_212, r_ck, r_0, r_1, r_2, r_3, r_4, r_5, r_6, r_7, r_8, r_9, r_10, r_11, r_12, r_13, r_14, r_15, r_16, r_17, r_18, r_19, r_20, r_21, r_22, r_23, r_24, r_25, r_26, r_27, r_28, r_29, r_30, r_31, r_32, r_33, r_34, r_35, r_36, r_37, rp_0, rp_1, rp_26, rp_28, rp_30, rp_33, rp_35, rp_37, Option.bind_some, bRT, bRW, bWW, bW, le0, ne10, if_true, if_false, not_true_eq_false, not_false_eq_true, uI_at, uA_1, uB_1, uG_1, uI_2, e1, n40, uI_uI, a, sN0 (k := 276) rfl b276, sN0 (k := 277) rfl b277, sN0 (k := 278) rfl b278, sN0 (k := 279) rfl b279, sN0 (k := 280) rfl b280, sN0 (k := 281) rfl b281, sN0 (k := 286) rfl b286, h5, sN0 (k := 289) rfl b289, sN1 (k := 290) rfl b290, sN1 (k := 291) rfl b291, sN0 (k := 292) rfl b292, nI_1]
              by_cases k2 : k = 2
              · simp only [k2, Option.bind_some, bRT, bRW, bWW, bW, le0, ne10, if_true, if_false, not_true_eq_false, not_false_eq_true, uI_at, uA_1, uB_1, uG_1, uI_2]; rfl
              · simp only [k2, Option.bind_some, bRT, bRW, bWW, bW, le0, ne10, if_true, if_false, not_true_eq_false, not_false_eq_true, uI_at, uA_1, uB_1, uG_1, uI_2]; rfl
          · intro hpk
            rcases hpk with q | q | q <;> rw [q] <;> decide
          · rfl
      rcases lkp_spec (nmP s (pfv s p) nm) s.2.2.2 0 with ⟨e, hno⟩ | ⟨r, _, hr, hP, hmin, e⟩
      · rw [e] at hfn hlk
        refine add (nI s.2.2.2) (-1) (Or.inr (Or.inl ⟨rfl, rfl, fun i hi => hno i (by omega) (by omega)⟩)) ?_ (fun σ' hM' => ?_)
        · rw [hcl2]
          simp only [DX9_field_77, o_ck, o_0, o_1, o_2, o_3, o_4, o_5, o_6, t_ck, t_0, v_ck, v_0, q_ck, q_0, q_1, q_2, q_3, q_4, wr_ck, wr_0, wr_1, wr_2, rd_ck, rd_0, rd_1, Option.bind_some, bRT, bRW, bWW, bW, le0, ne10, if_true, if_false, not_true_eq_false, not_false_eq_true, uI_at, uA_1, uB_1, uG_1, uI_2, hfn]
        · rw [hrf2 σ' hM']
          simp only [DX10_field_60, r_ck, r_0, r_1, r_2, r_3, r_4, r_5, r_6, r_7, r_8, r_9, r_10, r_11, r_12, r_13, r_14, r_15, r_16, r_17, r_18, r_19, r_20, r_21, r_22, r_23, r_24, r_25, r_26, r_27, r_28, r_29, r_30, r_31, r_32, r_33, r_34, r_35, r_36, r_37, rp_0, rp_1, rp_26, rp_28, rp_30, rp_33, rp_35, rp_37, Option.bind_some, bRT, bRW, bWW, bW, le0, ne10, if_true, if_false, not_true_eq_false, not_false_eq_true, uI_at, uA_1, uB_1, uG_1, uI_2, hlk σ' hM', ltm0]
      · rw [e] at hfn hlk
        have hr' : r < s.2.2.2 := by omega
        by_cases hkr : s.1 r 1 = k
        · refine add (nI r) (nI r) (Or.inr (Or.inr ⟨r, hr', rfl, rfl, hkr, hP, fun i hi => hmin i (by omega) hi⟩)) ?_ (fun σ' hM' => ?_)
          · rw [hcl2]
            simp only [DX9_field_77, o_ck, o_0, o_1, o_2, o_3, o_4, o_5, o_6, t_ck, t_0, v_ck, v_0, q_ck, q_0, q_1, q_2, q_3, q_4, wr_ck, wr_0, wr_1, wr_2, rd_ck, rd_0, rd_1, Option.bind_some, bRT, bRW, bWW, bW, le0, ne10, if_true, if_false, not_true_eq_false, not_false_eq_true, uI_at, uA_1, uB_1, uG_1, uI_2, hfn, nI_nm1 (show r < 2 ^ 31 by omega), e_tg hC hr', c_1 hC (show r < 40 by omega), hkr]
          · rw [hrf2 σ' hM']
            simp only [DX10_field_60, r_ck, r_0, r_1, r_2, r_3, r_4, r_5, r_6, r_7, r_8, r_9, r_10, r_11, r_12, r_13, r_14, r_15, r_16, r_17, r_18, r_19, r_20, r_21, r_22, r_23, r_24, r_25, r_26, r_27, r_28, r_29, r_30, r_31, r_32, r_33, r_34, r_35, r_36, r_37, rp_0, rp_1, rp_26, rp_28, rp_30, rp_33, rp_35, rp_37, Option.bind_some, bRT, bRW, bWW, bW, le0, ne10, if_true, if_false, not_true_eq_false, not_false_eq_true, uI_at, uA_1, uB_1, uG_1, uI_2, hlk σ' hM', nI_pos (show r < 2 ^ 31 by omega), m_kind (hM'.thr 0) hn hr', hkr]
        · refine Out.thr hS' 3 (by omega) 0 ?_ (fun σ' hM' => ?_)
          · rw [hcl2]
            simp only [DX9_field_77, o_ck, o_0, o_1, o_2, o_3, o_4, o_5, o_6, t_ck, t_0, v_ck, v_0, q_ck, q_0, q_1, q_2, q_3, q_4, wr_ck, wr_0, wr_1, wr_2, rd_ck, rd_0, rd_1, Option.bind_some, bRT, bRW, bWW, bW, le0, ne10, if_true, if_false, not_true_eq_false, not_false_eq_true, uI_at, uA_1, uB_1, uG_1, uI_2, hfn, nI_nm1 (show r < 2 ^ 31 by omega), e_tg hC hr', c_1 hC (show r < 40 by omega), hkr]
            rfl
          · refine (hrf2 σ' hM').trans ?_
            simp only [DX10_field_60, DX10_field_115, r_ck, r_0, r_1, r_2, r_3, r_4, r_5, r_6, r_7, r_8, r_9, r_10, r_11, r_12, r_13, r_14, r_15, r_16, r_17, r_18, r_19, r_20, r_21, r_22, r_23, r_24, r_25, r_26, r_27, r_28, r_29, r_30, r_31, r_32, r_33, r_34, r_35, r_36, r_37, rp_0, rp_1, rp_26, rp_28, rp_30, rp_33, rp_35, rp_37, Option.bind_some, bRT, bRW, bWW, bW, le0, ne10, if_true, if_false, not_true_eq_false, not_false_eq_true, uI_at, uA_1, uB_1, uG_1, uI_2, hlk σ' hM', nI_pos (show r < 2 ^ 31 by omega), m_kind (hM'.thr 0) hn hr', hkr, le3, uI_uI]
            rfl
    · refine Out.thr hS' 2 (by omega) 0 ?_ (fun σ' hM' => ?_)
      · rw [hcl]
        simp only [DX9_field_20, o_ck, o_0, o_1, o_2, o_3, o_4, o_5, o_6, t_ck, t_0, v_ck, v_0, q_ck, q_0, q_1, q_2, q_3, q_4, wr_ck, wr_0, wr_1, wr_2, rd_ck, rd_0, rd_1, Option.bind_some, bRT, bRW, bWW, bW, le0, ne10, if_true, if_false, not_true_eq_false, not_false_eq_true, uI_at, uA_1, uB_1, uG_1, uI_2]
        by_cases k0 : k < 0
        · rw [if_pos k0]; rfl
        · by_cases k5 : (5 : Int32) < k
          · rw [if_neg k0, if_pos k5]; rfl
          · by_cases n0 : nm < 0
            · rw [if_neg k0, if_neg k5, if_pos n0]; rfl
            · by_cases n9 : nm ≤ (999 : Int32)
              · rw [if_neg k0, if_neg k5, if_neg n0, if_pos n9]
                have hb : ¬ (p = -1 ∨ ∃ a, a < s.2.2.2 ∧ p = nI a ∧ s.1 a 1 = 0) := fun q => hg ⟨⟨Int32.not_lt.mp k0, Int32.not_lt.mp k5⟩, ⟨Int32.not_lt.mp n0, n9⟩, q⟩
                rcases hp0 with hp0 | ⟨a, ha, rfl⟩
                · exact absurd (Or.inl hp0) hb
                · have : ¬ s.1 a 1 = 0 := fun q => hb (Or.inr ⟨a, ha, rfl, q⟩)
                  simp only [nI_nm1 (show a < 2 ^ 31 by omega), e_tg hC ha, c_1 hC (show a < 40 by omega), this, Option.bind_some, bRT, bRW, bWW, bW, le0, ne10, if_true, if_false, not_true_eq_false, not_false_eq_true, uI_at, uA_1, uB_1, uG_1, uI_2]
                  rfl
              · rw [if_neg k0, if_neg k5, if_neg n0, if_neg n9]; rfl
      · refine (hrf σ' hM').trans ?_
        simp only [DX10_field_18, DX10_field_55, DX10_field_59, r_ck, r_0, r_1, r_2, r_3, r_4, r_5, r_6, r_7, r_8, r_9, r_10, r_11, r_12, r_13, r_14, r_15, r_16, r_17, r_18, r_19, r_20, r_21, r_22, r_23, r_24, r_25, r_26, r_27, r_28, r_29, r_30, r_31, r_32, r_33, r_34, r_35, r_36, r_37, rp_0, rp_1, rp_26, rp_28, rp_30, rp_33, rp_35, rp_37, Option.bind_some, bRT, bRW, bWW, bW, le0, ne10, if_true, if_false, not_true_eq_false, not_false_eq_true, uI_at, uA_1, uB_1, uG_1, uI_2, l0, l5, l9, ii_eq, ite01]
        by_cases g1 : (0 : Int32) ≤ k ∧ k ≤ (5 : Int32)
        · rw [if_neg (fun q => q g1)]
          by_cases g2 : (0 : Int32) ≤ nm ∧ nm ≤ (999 : Int32)
          · rw [if_neg (fun q => q g2)]
            have hb : ¬ (p = -1 ∨ ∃ a, a < s.2.2.2 ∧ p = nI a ∧ s.1 a 1 = 0) := fun q => hg ⟨g1, g2, q⟩
            rcases hp0 with hp0 | ⟨a, ha, rfl⟩
            · exact absurd (Or.inl hp0) hb
            · have : ¬ s.1 a 1 = 0 := fun q => hb (Or.inr ⟨a, ha, rfl, q⟩)
              simp only [nI_pos (show a < 2 ^ 31 by omega), m_kind hM' hn ha, this, Option.bind_some, bRT, bRW, bWW, bW, le0, ne10, if_true, if_false, not_true_eq_false, not_false_eq_true, uI_at, uA_1, uB_1, uG_1, uI_2, DX10_field_60, r_ck, r_0, r_1, r_2, r_3, r_4, r_5, r_6, r_7, r_8, r_9, r_10, r_11, r_12, r_13, r_14, r_15, r_16, r_17, r_18, r_19, r_20, r_21, r_22, r_23, r_24, r_25, r_26, r_27, r_28, r_29, r_30, r_31, r_32, r_33, r_34, r_35, r_36, r_37, rp_0, rp_1, rp_26, rp_28, rp_30, rp_33, rp_35, rp_37, le2]
              rfl
          · rw [if_pos g2]
            simp only [DX10_field_60, r_ck, r_0, r_1, r_2, r_3, r_4, r_5, r_6, r_7, r_8, r_9, r_10, r_11, r_12, r_13, r_14, r_15, r_16, r_17, r_18, r_19, r_20, r_21, r_22, r_23, r_24, r_25, r_26, r_27, r_28, r_29, r_30, r_31, r_32, r_33, r_34, r_35, r_36, r_37, rp_0, rp_1, rp_26, rp_28, rp_30, rp_33, rp_35, rp_37, le2, Option.bind_some, bRT, bRW, bWW, bW, le0, ne10, if_true, if_false, not_true_eq_false, not_false_eq_true, uI_at, uA_1, uB_1, uG_1, uI_2]
            rfl
        · rw [if_pos g1]
          simp only [DX10_field_60, r_ck, r_0, r_1, r_2, r_3, r_4, r_5, r_6, r_7, r_8, r_9, r_10, r_11, r_12, r_13, r_14, r_15, r_16, r_17, r_18, r_19, r_20, r_21, r_22, r_23, r_24, r_25, r_26, r_27, r_28, r_29, r_30, r_31, r_32, r_33, r_34, r_35, r_36, r_37, rp_0, rp_1, rp_26, rp_28, rp_30, rp_33, rp_35, rp_37, le2, Option.bind_some, bRT, bRW, bWW, bW, le0, ne10, if_true, if_false, not_true_eq_false, not_false_eq_true, uI_at, uA_1, uB_1, uG_1, uI_2]
          rfl
  · have hx : p < 0 ∨ nI s.2.2.2 ≤ p := by
      rcases ixc p hn with q | q
      · exact q
      · exact absurd (Or.inr q) hp0
    have hm1 : ¬ p = -1 := fun q => hp0 (Or.inl q)
    refine Out.thr hS' 1 (by omega) 0 ?_ (fun σ' hM' => ?_)
    · simp only [DX9_field, o_ck, o_0, o_1, o_2, o_3, o_4, o_5, o_6, t_ck, t_0, v_ck, v_0, q_ck, q_0, q_1, q_2, q_3, q_4, wr_ck, wr_0, wr_1, wr_2, rd_ck, rd_0, rd_1, Option.bind_some, bRT, bRW, bWW, bW, le0, ne10, if_true, if_false, not_true_eq_false, not_false_eq_true, uI_at, uA_1, uB_1, uG_1, uI_2, hm1, e_tg0 hC hx]
      rfl
    · simp only [DX10_field, DX10_field_60, r_ck, r_0, r_1, r_2, r_3, r_4, r_5, r_6, r_7, r_8, r_9, r_10, r_11, r_12, r_13, r_14, r_15, r_16, r_17, r_18, r_19, r_20, r_21, r_22, r_23, r_24, r_25, r_26, r_27, r_28, r_29, r_30, r_31, r_32, r_33, r_34, r_35, r_36, r_37, rp_0, rp_1, rp_26, rp_28, rp_30, rp_33, rp_35, rp_37, Option.bind_some, bRT, bRW, bWW, bW, le0, ne10, if_true, if_false, not_true_eq_false, not_false_eq_true, uI_at, uA_1, uB_1, uG_1, uI_2, hm1, e_no0 hM' hx, le1]
      rfl
