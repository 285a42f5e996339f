/-! RINGS, in the class -/
def wst (M : Nat → Nat → Prop) (k i o : Nat) : Prop := M i o ∨ (M i k ∧ M k o)
def Wsh (M : Nat → Nat → Prop) : Nat → Nat → Nat → Prop
  | 0 => M
  | k + 1 => wst (Wsh M k) k
theorem wst_k {M : Nat → Nat → Prop} {k o : Nat} : wst M k k o ↔ M k o := ⟨fun h => h.elim id (fun q => q.2), Or.inl⟩
/-- the least i below n with P, or -1 -/
def Lst (P : Nat → Prop) (n : Nat) (r : Int32) : Prop := (r = -1 ∧ ∀ i, i < n → ¬ P i) ∨ ∃ i, i < n ∧ P i ∧ (∀ j, j < i → ¬ P j) ∧ r = nI i
theorem Lst.un {P Q : Nat → Prop} {n : Nat} {a b : Int32} (ha : Lst P n a) (hb : Lst Q n b) (h : ∀ i, i < n → (P i ↔ Q i)) : a = b := by
  rcases ha with ⟨ea, ha⟩ | ⟨i, hi, h1, h2, ea⟩
  · rcases hb with ⟨eb, _⟩ | ⟨j, hj, g1, _, _⟩
    · rw [ea, eb]
    · exact absurd ((h j hj).mpr g1) (ha j hj)
  · rcases hb with ⟨_, hb⟩ | ⟨j, hj, g1, g2, eb⟩
    · exact absurd ((h i hi).mp h1) (hb i hi)
    · rcases Nat.lt_trichotomy i j with q | q | q
      · exact absurd ((h i hi).mp h1) (g2 i q)
      · rw [ea, eb, q]
      · exact absurd ((h j hj).mpr g1) (h2 j q)
theorem RC.needs {σ τ : SG} {s : AS} (h : RC σ s) (hq : sbut [247, 248] σ τ) : RC τ s :=
  h.work (hq.wk (by simp)) (h.view.ag (hq.ag (by simp))) (h.res.ag (hq.ag (by simp))) (h.upw.ag (hq.ag (by simp)))
theorem uB_at (σ : SG) (k j : Nat) (x : Int64) : (uB σ k j x).2.2.2 k j = x := by simp [uB]
theorem uB_ne (σ : SG) (k j : Nat) (x : Int64) {k' j' : Nat} (h : ¬ (k' = k ∧ j' = j)) : (uB σ k j x).2.2.2 k' j' = σ.2.2.2 k' j' := by simp only [uB]; rw [if_neg h]
theorem e_gath4 {N h : Nat} (hN : 10000 ≤ N) {s : AS} (hI : Inv s) : ∀ (w j : Nat) (σ : SG) (x : Int64), s.2.2.2 - j < w → j ≤ s.2.2.2 → RC σ s → ∃ τ y, DX1_gatherNeeds_4 N w (h + 246) x (nI j) (HH h σ) = some (.inl y, HH h τ) ∧ sbut [247, 248] σ τ ∧ (∀ i, j ≤ i → i < s.2.2.2 → (∀ o, o < 64 → (tbt (τ.2.2.2 247 i) o = true ↔ ndC s i o)) ∧ τ.2.2.2 248 i = τ.2.2.2 247 i) ∧ (∀ i, i < j → τ.2.2.2 247 i = σ.2.2.2 247 i ∧ τ.2.2.2 248 i = σ.2.2.2 248 i) ∧ ∀ o, o < 64 → (tbt y o = true ↔ tbt x o = true ∨ (j ≤ o ∧ o < s.2.2.2 ∧ isF s o)) := by
  have hn := hI.n40
  intro w
  induction w with
  | zero => intro j σ x hw; omega
  | succ w ih =>
    intro j σ x hw hj hC
    simp only [DX1_gatherNeeds_4, DX1_gatherNeeds_71, o_ck, o_0, o_1, o_2, o_3, o_4, o_5, o_6, t_ck, t_0, v_ck, v_0, q_ck, q_0, q_1, q_2, q_3, q_4, wr_ck, wr_0, wr_1, wr_2, rd_ck, rd_0, rd_1, Option.bind_some, bRT, bRW, bWW, bW, le0, ne10, if_true, if_false, not_true_eq_false, not_false_eq_true, uI_at, uA_1, uB_1, uG_1, uI_2, e_tc hC]
    by_cases z : s.2.2.2 ≤ j
    · refine ⟨σ, x, by rw [if_pos (nI_le z (by omega))], sbut.rf, fun i h1 h2 => by omega, fun i _ => ⟨rfl, rfl⟩, fun o _ => ⟨Or.inl, fun q => ?_⟩⟩
      rcases q with q | ⟨q1, q2, _⟩
      · exact q
      · omega
    · have hlt : j < s.2.2.2 := by omega
      have hj4 : j < 40 := by omega
      rw [if_neg (nI_ge hlt (by omega)), if_neg (show ¬ (40 : Int32) ≤ nI j from nI_ge (b := 40) hj4 (by omega))]
      obtain ⟨nd, nd1, nd2⟩ := e_needsOf (N := N) (h := h) hN hC hI hlt
      have hb : sbut [247, 248] σ (uB (uB σ 247 j nd) 248 j nd) := (sbut.uB (by simp)).tr (sbut.uB (by simp))
      have hC2 := hC.needs hb
      have b247 : (uB σ 247 j nd).2.2.2 247 j = nd := uB_at _ _ _ _
      simp only [e_tg hC hlt, Option.bind_some, bRT, bRW, bWW, bW, le0, ne10, if_true, if_false, not_true_eq_false, not_false_eq_true, uI_at, uA_1, uB_1, uG_1, uI_2, nd1, sN1 (k := 247) rfl (show j < ln 247 from hj4), o_ck, o_0, o_1, o_2, o_3, o_4, o_5, o_6, t_ck, t_0, v_ck, v_0, q_ck, q_0, q_1, q_2, q_3, q_4, wr_ck, wr_0, wr_1, wr_2, rd_ck, rd_0, rd_1, aN1 (k := 247) rfl (show j < ln 247 from hj4), b247, sN1 (k := 248) rfl (show j < ln 248 from hj4), c_13 hC2 hj4, e_bit hj4, nI_1]
      have fin : ∀ y', (∀ o, o < 64 → (tbt y' o = true ↔ tbt x o = true ∨ (j = o ∧ isF s o))) → ∃ τ y, DX1_gatherNeeds_4 N w (h + 246) y' (nI (j + 1)) (HH h (uB (uB σ 247 j nd) 248 j nd)) = some (.inl y, HH h τ) ∧ sbut [247, 248] σ τ ∧ (∀ i, j ≤ i → i < s.2.2.2 → (∀ o, o < 64 → (tbt (τ.2.2.2 247 i) o = true ↔ ndC s i o)) ∧ τ.2.2.2 248 i = τ.2.2.2 247 i) ∧ (∀ i, i < j → τ.2.2.2 247 i = σ.2.2.2 247 i ∧ τ.2.2.2 248 i = σ.2.2.2 248 i) ∧ ∀ o, o < 64 → (tbt y o = true ↔ tbt x o = true ∨ (j ≤ o ∧ o < s.2.2.2 ∧ isF s o)) := fun y' hy' => by
        obtain ⟨τ, y, t1, t2, t3, t4, t5⟩ := ih (j + 1) _ y' (by omega) (by omega) hC2
        refine ⟨τ, y, t1, hb.tr t2, fun i h1 h2 => ?_, fun i hi => ?_, fun o ho => (t5 o ho).trans ?_⟩
        · by_cases e : i = j
          · subst e
            obtain ⟨q1, q2⟩ := t4 i (by omega)
            rw [q1, q2, uB_at, uB_ne _ _ _ _ (by omega), uB_at]
            exact ⟨nd2, rfl⟩
          · exact t3 i (by omega) h2
        · obtain ⟨q1, q2⟩ := t4 i (by omega)
          rw [q1, q2, uB_ne _ _ _ _ (by omega), uB_ne _ _ _ _ (by omega), uB_ne _ _ _ _ (by omega), uB_ne _ _ _ _ (by omega)]
          exact ⟨rfl, rfl⟩
        · rw [hy' o ho]
          constructor
          · rintro ((q | ⟨q, q'⟩) | ⟨q1, q2, q3⟩)
            · exact Or.inl q
            · exact Or.inr ⟨by omega, by omega, q'⟩
            · exact Or.inr ⟨by omega, q2, q3⟩
          · rintro (q | ⟨q1, q2, q3⟩)
            · exact Or.inl (Or.inl q)
            · by_cases e : j = o
              · exact Or.inl (Or.inr ⟨e, q3⟩)
              · exact Or.inr ⟨by omega, q2, q3⟩
      by_cases c : s.1 j 13 = -1
      · rw [if_pos c]
        refine fin x (fun o _ => ⟨Or.inl, fun q => ?_⟩)
        rcases q with q | ⟨rfl, q⟩
        · exact q
        · exact absurd c q
      · rw [if_neg c]
        refine fin _ (fun o ho => ?_)
        rw [tbt_or, tbt_2 ho, Bool.or_eq_true, decide_eq_true_iff]
        constructor
        · rintro (q | q)
          · exact Or.inl q
          · exact Or.inr ⟨q, by rw [← q]; exact c⟩
        · rintro (q | ⟨q, _⟩)
          · exact Or.inl q
          · exact Or.inr q
theorem e_gather {N h : Nat} (hN : 10000 ≤ N) {σ : SG} {s : AS} (hC : RC σ s) (hI : Inv s) : ∃ τ y, DX1_gatherNeeds N (h + 246) (HH h σ) = some (.inl y, HH h τ) ∧ sbut [247, 248] σ τ ∧ (∀ i, i < s.2.2.2 → (∀ o, o < 64 → (tbt (τ.2.2.2 247 i) o = true ↔ ndC s i o)) ∧ τ.2.2.2 248 i = τ.2.2.2 247 i) ∧ ∀ o, o < 64 → (tbt y o = true ↔ o < s.2.2.2 ∧ isF s o) := by
  have hn := hI.n40
  obtain ⟨τ, y, t1, t2, t3, t4, t5⟩ := e_gath4 (N := N) (h := h) hN hI N 0 σ 0 (by omega) (by omega) hC
  refine ⟨τ, y, ?_, t2, fun i hi => t3 i (by omega) hi, fun o ho => (t5 o ho).trans ?_⟩
  · rw [nI_0] at t1
    simp only [DX1_gatherNeeds, o_ck, o_0, o_1, o_2, o_3, o_4, o_5, o_6, t_ck, t_0, v_ck, v_0, q_ck, q_0, q_1, q_2, q_3, q_4, wr_ck, wr_0, wr_1, wr_2, rd_ck, rd_0, rd_1, Option.bind_some, bRT, bRW, bWW, bW, le0, ne10, if_true, if_false, not_true_eq_false, not_false_eq_true, uI_at, uA_1, uB_1, uG_1, uI_2, t1]
  · rw [tbt_0]
    exact ⟨fun q => by
      rcases q with q | q
      · exact absurd q (by decide)
      · exact q.2, fun q => Or.inr ⟨by omega, q⟩⟩
theorem e_ring22 {N h : Nat} {n : Nat} (hn : n ≤ 40) {M : Nat → Nat → Prop} {k : Nat} (hk : k < n) (k15 : Nat → Int32 → Int32 → HF → Option (Int32 × HF)) : ∀ (w i : Nat) (σ : SG), n - i < w → i ≤ n → (∀ r, r < n → ∀ o, o < 64 → (tbt (σ.2.2.2 248 r) o = true ↔ (r < i ∧ wst M k r o) ∨ (i ≤ r ∧ M r o))) → ∃ τ, DX1_leastInRing_22 N k15 w (h + 246) (nI n) (nI k) (nI i) (HH h σ) = k15 (h + 246) (nI n) (nI (k + 1)) (HH h τ) ∧ sbut [248] σ τ ∧ ∀ r, r < n → ∀ o, o < 64 → (tbt (τ.2.2.2 248 r) o = true ↔ wst M k r o) := by
  intro w
  induction w with
  | zero => intro i σ hw; omega
  | succ w ih =>
    intro i σ hw hi hR
    rw [DX1_leastInRing_22]
    by_cases z : n ≤ i
    · refine ⟨σ, by rw [if_pos (nI_le z (by omega)), nI_1], sbut.rf, fun r hr o ho => (hR r hr o ho).trans ⟨fun q => ?_, fun q => Or.inl ⟨by omega, q⟩⟩⟩
      rcases q with q | q
      · exact q.2
      · omega
    · have hlt : i < n := by omega
      have hi4 : i < 40 := by omega
      have hk4 : k < 40 := by omega
      rw [if_neg (nI_ge hlt (by omega))]
      simp only [o_ck, o_0, o_1, o_2, o_3, o_4, o_5, o_6, t_ck, t_0, v_ck, v_0, q_ck, q_0, q_1, q_2, q_3, q_4, wr_ck, wr_0, wr_1, wr_2, rd_ck, rd_0, rd_1, Option.bind_some, bRT, bRW, bWW, bW, le0, ne10, if_true, if_false, not_true_eq_false, not_false_eq_true, uI_at, uA_1, uB_1, uG_1, uI_2, aN1 (k := 248) rfl (show i < ln 248 from hi4), e_inb hk4, ite01]
      have hrow : ∀ o, o < 64 → (tbt (σ.2.2.2 248 i) o = true ↔ M i o) := fun o ho => (hR i hlt o ho).trans ⟨fun q => by
        rcases q with q | q
        · omega
        · exact q.2, fun q => Or.inr ⟨Nat.le_refl _, q⟩⟩
      have hrowk : ∀ o, o < 64 → (tbt (σ.2.2.2 248 k) o = true ↔ M k o) := fun o ho => (hR k hk o ho).trans ⟨fun q => by
        rcases q with q | q
        · exact wst_k.mp q.2
        · exact q.2, fun q => by
        rcases Nat.lt_or_ge k i with e | e
        · exact Or.inl ⟨e, wst_k.mpr q⟩
        · exact Or.inr ⟨e, q⟩⟩
      by_cases c : tbt (σ.2.2.2 248 i) k = true
      · have hMk := (hrow k (by omega)).mp c
        rw [if_neg (fun q => q c)]
        simp only [o_ck, o_0, o_1, o_2, o_3, o_4, o_5, o_6, t_ck, t_0, v_ck, v_0, q_ck, q_0, q_1, q_2, q_3, q_4, wr_ck, wr_0, wr_1, wr_2, rd_ck, rd_0, rd_1, Option.bind_some, bRT, bRW, bWW, bW, le0, ne10, if_true, if_false, not_true_eq_false, not_false_eq_true, uI_at, uA_1, uB_1, uG_1, uI_2, aN1 (k := 248) rfl (show k < ln 248 from hk4), sN1 (k := 248) rfl (show i < ln 248 from hi4), DX1_leastInRing_55, nI_1]
        have hst : ∀ r, r < n → ∀ o, o < 64 → (tbt ((uB σ 248 i (σ.2.2.2 248 i ||| σ.2.2.2 248 k)).2.2.2 248 r) o = true ↔ (r < i + 1 ∧ wst M k r o) ∨ (i + 1 ≤ r ∧ M r o)) := fun r hr o ho => by
          by_cases e : r = i
          · subst e
            rw [uB_at, tbt_or, Bool.or_eq_true, hrow o ho, hrowk o ho]
            exact ⟨fun q => Or.inl ⟨by omega, by
              rcases q with q | q
              · exact Or.inl q
              · exact Or.inr ⟨hMk, q⟩⟩, fun q => by
              rcases q with q | q
              · rcases q.2 with q | q
                · exact Or.inl q
                · exact Or.inr q.2
              · omega⟩
          · rw [uB_ne _ _ _ _ (by omega), hR r hr o ho]
            constructor
            · rintro (⟨a, b⟩ | ⟨a, b⟩)
              · exact Or.inl ⟨by omega, b⟩
              · exact Or.inr ⟨by omega, b⟩
            · rintro (⟨a, b⟩ | ⟨a, b⟩)
              · exact Or.inl ⟨by omega, b⟩
              · exact Or.inr ⟨by omega, b⟩
        obtain ⟨τ, t1, t2, t3⟩ := ih (i + 1) (uB σ 248 i (σ.2.2.2 248 i ||| σ.2.2.2 248 k)) (by omega) (by omega) hst
        exact ⟨τ, t1, (sbut.uB (by simp)).tr t2, t3⟩
      · have hMk : ¬ M i k := fun q => c ((hrow k (by omega)).mpr q)
        rw [if_pos c]
        simp only [DX1_leastInRing_55, nI_1]
        have hst : ∀ r, r < n → ∀ o, o < 64 → (tbt (σ.2.2.2 248 r) o = true ↔ (r < i + 1 ∧ wst M k r o) ∨ (i + 1 ≤ r ∧ M r o)) := fun r hr o ho => by
          rw [hR r hr o ho]
          constructor
          · rintro (⟨a, b⟩ | ⟨a, b⟩)
            · exact Or.inl ⟨by omega, b⟩
            · by_cases e : r = i
              · subst e
                exact Or.inl ⟨by omega, Or.inl b⟩
              · exact Or.inr ⟨by omega, b⟩
          · rintro (⟨a, b⟩ | ⟨a, b⟩)
            · by_cases e : r = i
              · subst e
                rcases b with b | b
                · exact Or.inr ⟨by omega, b⟩
                · exact absurd b.1 hMk
              · exact Or.inl ⟨by omega, b⟩
            · exact Or.inr ⟨by omega, b⟩
        obtain ⟨τ, t1, t2, t3⟩ := ih (i + 1) σ (by omega) (by omega) hst
        exact ⟨τ, t1, t2, t3⟩
theorem e_ring15 {N h : Nat} (hN : 10000 ≤ N) {n : Nat} (hn : n ≤ 40) {M : Nat → Nat → Prop} : ∀ (w k : Nat) (σ : SG), n - k < w → k ≤ n → (∀ r, r < n → ∀ o, o < 64 → (tbt (σ.2.2.2 248 r) o = true ↔ Wsh M k r o)) → ∃ τ, DX1_leastInRing_15 N w (h + 246) (nI n) (nI k) (HH h σ) = DX1_leastInRing_69 N N (h + 246) (nI n) 0 (HH h τ) ∧ sbut [248] σ τ ∧ ∀ r, r < n → ∀ o, o < 64 → (tbt (τ.2.2.2 248 r) o = true ↔ Wsh M n r o) := by
  intro w
  induction w with
  | zero => intro k σ hw; omega
  | succ w ih =>
    intro k σ hw hk hR
    rw [DX1_leastInRing_15]
    by_cases z : n ≤ k
    · obtain rfl : k = n := by omega
      exact ⟨σ, by rw [if_pos (nI_le z (by omega))], sbut.rf, hR⟩
    · have hlt : k < n := by omega
      obtain ⟨τ, t1, t2, t3⟩ := e_ring22 (N := N) (h := h) hn hlt (DX1_leastInRing_15 N w) N 0 σ (by omega) (by omega) (fun r hr o ho => (hR r hr o ho).trans ⟨fun q => Or.inr ⟨by omega, q⟩, fun q => by
        rcases q with q | q
        · omega
        · exact q.2⟩)
      obtain ⟨υ, u1, u2, u3⟩ := ih (k + 1) τ (by omega) (by omega) t3
      refine ⟨υ, ?_, t2.tr u2, u3⟩
      rw [nI_0] at t1
      rw [if_neg (nI_ge hlt (by omega)), t1, u1]
theorem e_ring69 {N h : Nat} {n : Nat} (hn : n ≤ 40) {M : Nat → Nat → Prop} {σ : SG} (hR : ∀ r, r < n → ∀ o, o < 64 → (tbt (σ.2.2.2 248 r) o = true ↔ M r o)) : ∀ (w i : Nat), n - i < w → i ≤ n → (∀ j, j < i → ¬ M j j) → ∃ r, DX1_leastInRing_69 N w (h + 246) (nI n) (nI i) (HH h σ) = some (r, HH h σ) ∧ Lst (fun i => M i i) n r := by
  intro w
  induction w with
  | zero => intro i hw; omega
  | succ w ih =>
    intro i hw hi hj
    rw [DX1_leastInRing_69]
    by_cases z : n ≤ i
    · exact ⟨-1, by rw [if_pos (nI_le z (by omega))], Or.inl ⟨rfl, fun j hjn => hj j (by omega)⟩⟩
    · have hlt : i < n := by omega
      have hi4 : i < 40 := by omega
      rw [if_neg (nI_ge hlt (by omega))]
      simp only [o_ck, o_0, o_1, o_2, o_3, o_4, o_5, o_6, t_ck, t_0, v_ck, v_0, q_ck, q_0, q_1, q_2, q_3, q_4, wr_ck, wr_0, wr_1, wr_2, rd_ck, rd_0, rd_1, Option.bind_some, bRT, bRW, bWW, bW, le0, ne10, if_true, if_false, not_true_eq_false, not_false_eq_true, uI_at, uA_1, uB_1, uG_1, uI_2, aN1 (k := 248) rfl (show i < ln 248 from hi4), e_inb hi4, ite01, nI_1]
      by_cases c : tbt (σ.2.2.2 248 i) i = true
      · exact ⟨nI i, by rw [if_neg (fun q => q c)], Or.inr ⟨i, hlt, (hR i hlt i (by omega)).mp c, hj, rfl⟩⟩
      · obtain ⟨r, r1, r2⟩ := ih (i + 1) (by omega) (by omega) (fun j hj2 => by
          rcases Nat.lt_or_ge j i with q | q
          · exact hj j q
          · obtain rfl : j = i := by omega
            exact fun y => c ((hR j hlt j (by omega)).mpr y))
        exact ⟨r, by rw [if_pos c]; exact r1, r2⟩
theorem e_ring {N h : Nat} (hN : 10000 ≤ N) {σ : SG} {s : AS} (hC : RC σ s) {M : Nat → Nat → Prop} (hR : ∀ r, r < s.2.2.2 → ∀ o, o < 64 → (tbt (σ.2.2.2 248 r) o = true ↔ M r o)) : ∃ τ r, DX1_leastInRing N (h + 246) (HH h σ) = some (r, HH h τ) ∧ sbut [248] σ τ ∧ Lst (fun i => Wsh M s.2.2.2 i i) s.2.2.2 r := by
  have hn := hC.n40
  obtain ⟨τ, t1, t2, t3⟩ := e_ring15 (N := N) (h := h) hN hn N 0 σ (by omega) (by omega) hR
  obtain ⟨r, r1, r2⟩ := e_ring69 (N := N) (h := h) hn t3 N 0 (by omega) (by omega) (fun j hj => by omega)
  refine ⟨τ, r, ?_, t2, r2⟩
  have hmn : mnI (nI s.2.2.2) (40 : Int32) = nI s.2.2.2 := by
    unfold mnI
    by_cases e : s.2.2.2 = 40
    · rw [e]; rfl
    · first
      | rw [if_pos (show nI s.2.2.2 ≤ (40 : Int32) from nI_le (b := 40) hn (by omega))]
      | rw [if_pos (show nI s.2.2.2 < (40 : Int32) from nI_lt (b := 40) (by omega) (by omega))]
      | rw [if_neg (show ¬ (40 : Int32) ≤ nI s.2.2.2 from nI_ge (b := 40) (by omega) (by omega))]
      | rw [if_neg (show ¬ (40 : Int32) < nI s.2.2.2 from nI_nlt (b := s.2.2.2) (a := 40) (by omega) (by omega))]
  rw [nI_0] at t1 r1
  simp only [DX1_leastInRing, o_ck, o_0, o_1, o_2, o_3, o_4, o_5, o_6, t_ck, t_0, v_ck, v_0, q_ck, q_0, q_1, q_2, q_3, q_4, wr_ck, wr_0, wr_1, wr_2, rd_ck, rd_0, rd_1, Option.bind_some, bRT, bRW, bWW, bW, le0, ne10, if_true, if_false, not_true_eq_false, not_false_eq_true, uI_at, uA_1, uB_1, uG_1, uI_2, e_tc hC, hmn, t1, r1]
