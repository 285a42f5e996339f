/-! A RESULT IS WRITTEN -/
theorem sQ_self (s : AS) (i j : Nat) : sQ s i j (s.2.2.1 i j) = s := by
  obtain ⟨a, b, c, d⟩ := s
  simp only [sQ]
  congr 1
  congr 1
  congr 1
  funext i' j'
  by_cases e : i' = i ∧ j' = j
  · rw [if_pos e, e.1, e.2]
  · rw [if_neg e]
def apW (s : AS) (i : Nat) : AS := match res s i with | none => sQ s 40 0 (s.2.2.1 40 0 ++ [nI i]) | some v => sQ s i 0 (wrL v)
def chg (s : AS) (i : Nat) : Int32 := match res s i with | none => 0 | some v => if wrL v = s.2.2.1 i 0 then 0 else 1
theorem rg_s {x : Int64} {v : Int} (h : rg x = some v) : x = Int64.ofInt v ∧ -999999999999 ≤ v ∧ v ≤ 999999999999 := by
  unfold rg rgI at h
  by_cases c : -999999999999 ≤ x.toInt ∧ x.toInt ≤ 999999999999
  · rw [if_pos c, Option.some.injEq] at h
    rw [h] at c
    exact ⟨by rw [← h, Int64.ofInt_toInt], c⟩
  · rw [if_neg c] at h
    exact absurd h (by simp)
theorem rg_n {x : Int64} (h : rg x = none) : ¬ (-999999999999 ≤ x.toInt ∧ x.toInt ≤ 999999999999) := fun c => by
  unfold rg rgI at h
  rw [if_pos c] at h
  exact absurd h (by simp)
theorem e_beyond {N : Nat} {f : HF} (x : Int64) : DX0_isBeyond N x f = some (if -999999999999 ≤ x.toInt ∧ x.toInt ≤ 999999999999 then 0 else 1) := by
  unfold DX0_isBeyond
  simp only [Int64.lt_iff_toInt_lt, Int64.le_iff_toInt_le, show (-999999999999 : Int64).toInt = -999999999999 by decide +kernel, show (999999999999 : Int64).toInt = 999999999999 by decide +kernel]
  by_cases a : x.toInt < -999999999999
  · rw [if_pos a, if_neg (by omega)]
  · rw [if_neg a]
    by_cases b : x.toInt ≤ 999999999999
    · rw [if_pos b, if_pos (by omega)]
    · rw [if_neg b, if_neg (by omega)]
theorem inv_apW {s : AS} (hI : Inv s) {i : Nat} (hi : i < s.2.2.2) {x : Int64} (hx : rg x = res s i) : Inv (apW s i) := by
  unfold apW
  cases er : res s i with
  | none => exact hI.q40 0 _
  | some v =>
    rw [er] at hx
    exact hI.sg hi (fun _ => wrL_len (rg_s hx).2)
theorem apW_q (s : AS) (i : Nat) : (apW s i).1 = s.1 ∧ (apW s i).2.2.2 = s.2.2.2 ∧ ((apW s i).2.2.1 40 0).length ≤ (s.2.2.1 40 0).length + 1 ∨ 40 ≤ i := by
  by_cases hi : 40 ≤ i
  · exact Or.inr hi
  · left
    unfold apW
    cases res s i with
    | none => exact ⟨rfl, rfl, by simp [sQ]⟩
    | some v => exact ⟨rfl, rfl, by rw [sQ_o (by omega)]; omega⟩
theorem e_writeR {N h : Nat} (hN : 10000 ≤ N) {σ : SG} {s : AS} (hC : RC σ s) (hI : Inv s) {i : Nat} (hi : i < s.2.2.2) {x : Int64} (hx : rg x = res s i) (hf : (s.2.2.1 40 0).length < 40) : ∃ τ, DX1_writeResult N (h + 246) (nI i) x (HH h σ) = some (.inl (chg s i), HH h τ) ∧ RC τ (apW s i) ∧ fc σ τ ∧ τ.2.2.2 247 = σ.2.2.2 247 := by
  have hn := hI.n40
  have hi4 : i < 40 := by omega
  unfold apW chg
  cases er : res s i with
  | none =>
    rw [er] at hx
    have hb := rg_n hx
    have hrc : rc σ 251 = (s.2.2.1 40 0).length := by rw [← hC.fai.2, rlist_len]
    refine ⟨rpush σ 251 (nI i), ?_, hC.row (Or.inl ⟨rfl, rfl⟩) (rpush_but _ _ _) (rpush_ok _ hC.fai.1) ?_, fc.but (rpush_but _ _ _) (by simp), ((rpush_but σ 251 (nI i)).ag (k := 247) (by simp)).2.2.2⟩
    · simp only [DX1_writeResult, DX1_writeResult_25, o_ck, o_0, o_1, o_2, o_3, o_4, o_5, o_6, t_ck, t_0, v_ck, v_0, q_ck, q_0, q_1, q_2, q_3, q_4, wr_ck, wr_0, wr_1, wr_2, rd_ck, rd_0, rd_1, Option.bind_some, bRT, bRW, bWW, bW, le0, ne10, if_true, if_false, not_true_eq_false, not_false_eq_true, uI_at, uA_1, uB_1, uG_1, uI_2, e_tg hC hi, e_beyond, if_neg hb, e_add hC.fai.1, ite_self]
    · rw [rpush_list (by rw [hrc]; exact hf), hC.fai.2]
  | some v =>
    rw [er] at hx
    obtain ⟨rfl, hv⟩ := rg_s hx
    have hb : -999999999999 ≤ (Int64.ofInt v).toInt ∧ (Int64.ofInt v).toInt ≤ 999999999999 := by rw [ofI (by omega)]; exact hv
    have hk : rok (uI σ 249 1 0) 249 := rclear_ok hC.res
    have hlen := wrL_len hv
    have hap : rlist (rapp (uI σ 249 1 0) 249 (wrL v)) 249 = wrL v := by
      rw [rapp_list _ (by rw [rclear_rc]; show 0 + _ ≤ 14; omega), rclear_list]
      rfl
    have hb1 : sbut [249, 250] σ (rapp (uI σ 249 1 0) 249 (wrL v)) := (sbut.uI (by simp)).tr ((rapp_but 249 _ _).wk (by simp))
    have hC1 : RC (rapp (uI σ 249 1 0) 249 (wrL v)) s := hC.work (hb1.wk (by simp)) (hC.view.ag (hb1.ag (by simp))) (rapp_ok _ hk) (hC.upw.ag (hb1.ag (by simp)))
    have hsg := hC1.sg hi4
    have c247 : (rapp (uI σ 249 1 0) 249 (wrL v)).2.2.2 247 = σ.2.2.2 247 := (hb1.ag (k := 247) (by simp)).2.2.2
    by_cases es : wrL v = s.2.2.1 i 0
    · refine ⟨rapp (uI σ 249 1 0) 249 (wrL v), ?_, ?_, fc.but hb1 (by simp), c247⟩
      · simp only [DX1_writeResult, o_ck, o_0, o_1, o_2, o_3, o_4, o_5, o_6, t_ck, t_0, v_ck, v_0, q_ck, q_0, q_1, q_2, q_3, q_4, wr_ck, wr_0, wr_1, wr_2, rd_ck, rd_0, rd_1, Option.bind_some, bRT, bRW, bWW, bW, le0, ne10, if_true, if_false, not_true_eq_false, not_false_eq_true, uI_at, uA_1, uB_1, uG_1, uI_2, e_tg hC hi, e_beyond, if_pos hb, if_neg (encC_n hv), e_clear (r := 249) (show kd 249 = 4 from rfl), e_addWritten hN hk hv, g8 hi4, e_same hN (rapp_ok (wrL v) hk) hsg.1, hap, hsg.2, if_pos es]
      · show RC _ (sQ s i 0 (wrL v))
        rw [es, sQ_self, ← es]
        exact hC1
    · have hd : (3 + 6 * i + 2) ≠ 249 ∧ (3 + 6 * i + 2) ≠ 249 + 1 ∧ (3 + 6 * i + 2) + 1 ≠ 249 ∧ (3 + 6 * i + 2) + 1 ≠ 249 + 1 := by omega
      have hb2 : sbut [3 + 6 * i + 2, 3 + 6 * i + 2 + 1] (rapp (uI σ 249 1 0) 249 (wrL v)) (rapp (uI (rapp (uI σ 249 1 0) 249 (wrL v)) (3 + 6 * i + 2) 1 0) (3 + 6 * i + 2) (wrL v)) := (sbut.uI (by simp)).tr ((rapp_but _ _ _).wk (by simp))
      refine ⟨rapp (uI (rapp (uI σ 249 1 0) 249 (wrL v)) (3 + 6 * i + 2) 1 0) (3 + 6 * i + 2) (wrL v), ?_, hC1.S hi4 hb2 (rapp_ok _ (rclear_ok hsg.1)) ?_, (fc.but hb1 (by simp)).tr (fc.but hb2 (by simp; omega)), ?_⟩
      · simp only [DX1_writeResult, o_ck, o_0, o_1, o_2, o_3, o_4, o_5, o_6, t_ck, t_0, v_ck, v_0, q_ck, q_0, q_1, q_2, q_3, q_4, wr_ck, wr_0, wr_1, wr_2, rd_ck, rd_0, rd_1, Option.bind_some, bRT, bRW, bWW, bW, le0, ne10, if_true, if_false, not_true_eq_false, not_false_eq_true, uI_at, uA_1, uB_1, uG_1, uI_2, e_tg hC hi, e_beyond, if_pos hb, if_neg (encC_n hv), e_clear (r := 249) (show kd 249 = 4 from rfl), e_addWritten hN hk hv, g8 hi4, e_same hN (rapp_ok (wrL v) hk) hsg.1, hap, hsg.2, if_neg es, e_become hN hd hsg.1 (rapp_ok (wrL v) hk)]
      · rw [rapp_list _ (by rw [rclear_rc, ln_S hi4]; omega), rclear_list]
        rfl
      · rw [(hb2.ag (k := 247) (by simp; omega)).2.2.2, c247]
theorem f_w80 {N h : Nat} {i : Nat} (hi4 : i < 40) {L : List Int32} (hL : L.length ≤ 30) : ∀ (w q : Nat) (σ : SG) (fl : Int32), L.length - q < w → q ≤ L.length → σ.1 275 28 = nI L.length → (∀ c, c < L.length → σ.2.2.1 300 c = L.getD c 0) → (fl = 0 ∨ fl = 1) → ∃ τ fl', DX10_work_80 N w (h + 275) (nI i) fl (nI q) (HH h σ) = some (fl', HH h τ) ∧ (fl' = 0 ∨ fl' = 1) ∧ (fl' = 0 ↔ fl = 0 ∧ ∀ j, q ≤ j → j < L.length → σ.2.2.1 284 (30 * i + j) = L.getD j 0) ∧ sbut [284, 285] σ τ ∧ τ.1 = σ.1 ∧ τ.2.2.2 = σ.2.2.2 ∧ τ.2.2.1 285 i = nI L.length ∧ (∀ c, c ≠ i → τ.2.2.1 285 c = σ.2.2.1 285 c) ∧ (∀ j, q ≤ j → j < L.length → τ.2.2.1 284 (30 * i + j) = L.getD j 0) ∧ (∀ c, (∀ j, q ≤ j → j < L.length → c ≠ 30 * i + j) → τ.2.2.1 284 c = σ.2.2.1 284 c) := by
  intro w
  induction w with
  | zero => intro q σ fl hw; omega
  | succ w ih =>
    intro q σ fl hw hq h28 h300 hfl
    simp only [DX10_work_80, DX10_work_121, DX10_work_116, r_ck, r_0, r_1, r_2, r_3, r_4, r_5, r_6, r_7, r_8, r_9, r_10, r_11, r_12, r_13, r_14, r_15, r_16, r_17, r_18, r_19, r_20, r_21, r_22, r_23, r_24, r_25, r_26, r_27, r_28, r_29, r_30, r_31, r_32, r_33, r_34, r_35, r_36, r_37, rp_0, rp_1, rp_26, rp_28, rp_30, rp_33, rp_35, rp_37, Option.bind_some, bRT, bRW, bWW, bW, le0, ne10, if_true, if_false, not_true_eq_false, not_false_eq_true, uI_at, uA_1, uB_1, uG_1, uI_2, h28]
    by_cases z : L.length ≤ q
    · rw [if_pos (nI_le z (by omega))]
      simp only [sN0 (k := 285) rfl (show i < ln 285 from hi4), Option.bind_some, bRT, bRW, bWW, bW, le0, ne10, if_true, if_false, not_true_eq_false, not_false_eq_true, uI_at, uA_1, uB_1, uG_1, uI_2, if_pos hfl]
      refine ⟨uA σ 285 i (nI L.length), fl, rfl, hfl, ⟨fun e => ⟨e, fun j h1 h2 => by omega⟩, fun e => e.1⟩, sbut.uA (by simp), rfl, rfl, uA_at _ _ _ _, fun c hc => uA_ne _ _ _ _ (by omega), fun j h1 h2 => by omega, fun c _ => uA_ne _ _ _ _ (by omega)⟩
    · have hlt : q < L.length := by omega
      have b1 : 30 * i + q < ln 284 := show _ < 1200 by omega
      have b2 : q < ln 300 := show _ < 64 by omega
      rw [if_neg (nI_ge hlt (by omega))]
      simp only [n30, nI_add, aN0 (k := 284) rfl b1, aN0 (k := 300) rfl b2, Option.bind_some, bRT, bRW, bWW, bW, le0, ne10, if_true, if_false, not_true_eq_false, not_false_eq_true, uI_at, uA_1, uB_1, uG_1, uI_2, sN0 (k := 284) rfl b1, h300 q hlt, nI_1]
      have fin : ∀ g : Int32, (g = 0 ∨ g = 1) → (g = 0 ↔ fl = 0 ∧ σ.2.2.1 284 (30 * i + q) = L.getD q 0) → ∃ τ fl', DX10_work_80 N w (h + 275) (nI i) g (nI (q + 1)) (HH h (uA σ 284 (30 * i + q) (L.getD q 0))) = some (fl', HH h τ) ∧ (fl' = 0 ∨ fl' = 1) ∧ (fl' = 0 ↔ fl = 0 ∧ ∀ j, q ≤ j → j < L.length → σ.2.2.1 284 (30 * i + j) = L.getD j 0) ∧ sbut [284, 285] σ τ ∧ τ.1 = σ.1 ∧ τ.2.2.2 = σ.2.2.2 ∧ τ.2.2.1 285 i = nI L.length ∧ (∀ c, c ≠ i → τ.2.2.1 285 c = σ.2.2.1 285 c) ∧ (∀ j, q ≤ j → j < L.length → τ.2.2.1 284 (30 * i + j) = L.getD j 0) ∧ (∀ c, (∀ j, q ≤ j → j < L.length → c ≠ 30 * i + j) → τ.2.2.1 284 c = σ.2.2.1 284 c) := fun g hg hg2 => by
        obtain ⟨τ, f', t1, t2, t3, t4, t5, t6, t7, t8, t9, t10⟩ := ih (q + 1) (uA σ 284 (30 * i + q) (L.getD q 0)) g (by omega) (by omega) h28 (fun c hc => by rw [uA_ne _ _ _ _ (by omega)]; exact h300 c hc) hg
        refine ⟨τ, f', t1, t2, t3.trans ?_, (sbut.uA (by simp)).tr t4, t5, t6, t7, fun c hc => by rw [t8 c hc, uA_ne _ _ _ _ (by omega)], fun j h1 h2 => ?_, fun c hc => ?_⟩
        · rw [hg2]
          constructor
          · rintro ⟨⟨a, b⟩, c⟩
            refine ⟨a, fun j h1 h2 => ?_⟩
            by_cases e : j = q
            · rw [e]; exact b
            · have := c j (by omega) h2
              rw [uA_ne _ _ _ _ (by omega)] at this
              exact this
          · rintro ⟨a, c⟩
            exact ⟨⟨a, c q (by omega) hlt⟩, fun j h1 h2 => by rw [uA_ne _ _ _ _ (by omega)]; exact c j (by omega) h2⟩
        · by_cases e : j = q
          · subst e
            rw [t10 _ (fun j' h1 h2 => by omega), uA_at]
          · exact t9 j (by omega) h2
        · rw [t10 c (fun j h1 h2 => hc j (by omega) h2), uA_ne _ _ _ _ (fun e => hc q (by omega) hlt e.2)]
      rcases hfl with e | e
      · rw [if_pos e]
        by_cases y : σ.2.2.1 284 (30 * i + q) = L.getD q 0
        · rw [if_pos y]
          exact fin 0 (Or.inl rfl) ⟨fun _ => ⟨e, y⟩, fun _ => rfl⟩
        · rw [if_neg y]
          exact fin 1 (Or.inr rfl) ⟨fun q => absurd q (by decide), fun q => absurd q.2 y⟩
      · rw [if_neg (by rw [e]; decide)]
        exact fin 1 (Or.inr rfl) ⟨fun q => absurd q (by decide), fun q => by rw [e] at q; exact absurd q.1 (by decide)⟩
theorem mapp_B : ∀ (xs : List Int32) (σ : SG), (mapp σ xs).2.2.2 = σ.2.2.2
  | [], _ => rfl
  | x :: xs, σ => by
    rw [mapp, mapp_B xs]
    rfl
theorem f_absn {N : Nat} {f : HF} {x : Int64} (h1 : okx x) (h2 : ¬ (-999999999999 ≤ x.toInt ∧ x.toInt ≤ 999999999999)) : ∃ y, DX10_abs N x f = some y ∧ ¬ y ≤ 999999999999 := by
  unfold DX10_abs
  by_cases c : (0 : Int64) ≤ x
  · refine ⟨_, by rw [if_pos c], ?_⟩
    rw [Int64.le_iff_toInt_le, show (0 : Int64).toInt = 0 from rfl] at c
    rw [Int64.le_iff_toInt_le, show (999999999999 : Int64).toInt = 999999999999 by decide +kernel]
    omega
  · refine ⟨_, by rw [if_neg c], ?_⟩
    rw [Int64.le_iff_toInt_le, show (0 : Int64).toInt = 0 from rfl] at c
    have h3 := Int64.toInt_lt x
    have e : (-x).toInt = -x.toInt := by
      unfold okx at h1
      rw [Int64.toInt_neg]
      exact Int.bmod_eq_of_le (by omega) (by omega)
    rw [Int64.le_iff_toInt_le, show (999999999999 : Int64).toInt = 999999999999 by decide +kernel, e]
    omega
theorem f_work {N h : Nat} (hN : 10000 ≤ N) {σ : SG} {s : AS} (hM : RM σ s) (hI : Inv s) (hl : ∀ q, q < 40 → (s.2.2.1 q 0).length ≤ 30 ∧ (s.2.2.1 q 1).length ≤ 12) {i : Nat} (hi : i < s.2.2.2) (hF : isF s i) (hf : (s.2.2.1 40 0).length < 40) : ∃ τ, DX10_work N (h + 275) (nI i) (HH h σ) = some (chg s i, HH h τ) ∧ RM τ (apW s i) ∧ fm σ τ ∧ τ.2.2.1 297 = σ.2.2.1 297 ∧ τ.2.2.1 298 = σ.2.2.1 298 ∧ τ.1 275 0 = σ.1 275 0 := by
  have hn := hI.n40
  have hi4 : i < 40 := by omega
  obtain ⟨x, x1, x2, x3⟩ := f_result (N := N) (h := h) hN hM hI (fun q hq => (hl q hq).1) hi hF
  unfold apW chg
  cases er : res s i with
  | none =>
    rw [er] at x2
    obtain ⟨y, y1, y2⟩ := f_absn (N := N) (f := HH h σ) x3 (rg_n x2)
    have hfa := hM.fai
    refine ⟨uI (uA σ 299 (s.2.2.1 40 0).length (nI i)) 275 26 (nI ((s.2.2.1 40 0).length + 1)), ?_, ?_, (fm.A (by omega)).tr fm.I, ?_, ?_, ?_⟩
    · simp only [DX10_work, DX10_work_25, r_ck, r_0, r_1, r_2, r_3, r_4, r_5, r_6, r_7, r_8, r_9, r_10, r_11, r_12, r_13, r_14, r_15, r_16, r_17, r_18, r_19, r_20, r_21, r_22, r_23, r_24, r_25, r_26, r_27, r_28, r_29, r_30, r_31, r_32, r_33, r_34, r_35, r_36, r_37, rp_0, rp_1, rp_26, rp_28, rp_30, rp_33, rp_35, rp_37, Option.bind_some, bRT, bRW, bWW, bW, le0, ne10, if_true, if_false, not_true_eq_false, not_false_eq_true, uI_at, uA_1, uB_1, uG_1, uI_2, x1, y1, y2, hfa.1, sN0 (k := 299) rfl (show (s.2.2.1 40 0).length < ln 299 from hf), nI_1, ite_self]
    · have hk : ∀ k, k ≠ 299 → (uI (uA σ 299 (s.2.2.1 40 0).length (nI i)) 275 26 (nI ((s.2.2.1 40 0).length + 1))).2.2.1 k = σ.2.2.1 k := fun k hk => by funext c; exact uA_ne _ _ _ _ (by omega)
      have hj : ∀ j, j ≠ 26 → (uI (uA σ 299 (s.2.2.1 40 0).length (nI i)) 275 26 (nI ((s.2.2.1 40 0).length + 1))).1 275 j = σ.1 275 j := fun j hj => uI_ne _ _ _ _ (by omega)
      refine ⟨by rw [hj 1 (by omega)]; exact hM.nn, fun q hq => (hM.F hq).cong (fun k a b _ _ _ _ _ => by rw [hk k (by omega)]) ⟨rfl, rfl⟩ rfl rfl (fun _ => ⟨rfl, rfl⟩), fun q hq => (hM.W hq).cong (fun k a b _ _ _ => by rw [hk k (by omega)]) (fun j _ => by rw [hk 284 (by omega)]) (fun j _ => by rw [hk 287 (by omega)]) (fun j _ => by rw [hk 289 (by omega)]) rfl (by rw [sQ_o (by omega)]), ⟨⟨?_, ?_⟩, ?_, ?_⟩, ?_, ?_⟩
      · rw [sQ_at, uI_at, List.length_append]
        rfl
      · rw [sQ_at]
        intro q hq
        rw [List.length_append] at hq
        simp only [uI_2]
        by_cases e : q = (s.2.2.1 40 0).length
        · subst e
          rw [uA_at, getD_app (by omega), if_pos rfl]
        · have hq' : q < (s.2.2.1 40 0).length := by simp at hq; omega
          rw [uA_ne _ _ _ _ (by omega), getD_app (by omega), if_neg e]
          exact hfa.2 q hq'
      · exact hM.dat.cong (hj _ (by omega)) (hk _ (by omega)) (by simp [sQ])
      · exact hM.inp.cong (hj _ (by omega)) (hk _ (by omega)) (by simp [sQ])
      · exact hM.made.cong (hj _ (by omega)) (hk _ (by omega)) (sQ_o (by omega))
      · exact hM.kept.cong (hj _ (by omega)) (hk _ (by omega)) (sQ_o (by omega))
    · funext c; exact uA_ne _ _ _ _ (by omega)
    · funext c; exact uA_ne _ _ _ _ (by omega)
    · exact uI_ne _ _ _ _ (by omega)
  | some v =>
    rw [er] at x2
    obtain ⟨rfl, hv⟩ := rg_s x2
    have hlen := wrL_len hv
    obtain ⟨m1, m2⟩ := mr0 σ
    have hM1 : RM (mapp (uI σ 275 28 0) (wrL v)) s := (hM.rsz 0).mapp _
    obtain ⟨o1, o2⟩ := mstep m1 (wrL v) (by omega)
    rw [m2, Nat.zero_add] at o2
    have hml : mlist (mapp (uI σ 275 28 0) (wrL v)) = wrL v := by rw [mapp_list _ (by omega), mlist_0]; rfl
    have hab : lN v.natAbs ≤ (999999999999 : Int64) := by
      rw [lN_ofInt, show (999999999999 : Int64) = Int64.ofInt 999999999999 from rfl, leV (by omega) (by omega)]
      omega
    have h28 : (mapp (uI σ 275 28 0) (wrL v)).1 275 28 = nI (wrL v).length := by rw [o1.1, o2]
    obtain ⟨τ, fl, t1, t2, t3, t4, t5, t6, t7, t8, t9, t10⟩ := f_w80 (N := N) (h := h) hi4 (L := wrL v) (by omega) N 0 (mapp (uI σ 275 28 0) (wrL v)) (if nI (s.2.2.1 i 0).length = nI (wrL v).length then 0 else 1) (by omega) (by omega) h28 (fun c hc => by rw [mlist_get (by omega), hml]) (by split <;> simp)
    rw [nI_0] at t1
    have ew : DX10_work N (h + 275) (nI i) (HH h σ) = some (fl, HH h τ) := by
      simp only [DX10_work, DX10_work_75, r_ck, r_0, r_1, r_2, r_3, r_4, r_5, r_6, r_7, r_8, r_9, r_10, r_11, r_12, r_13, r_14, r_15, r_16, r_17, r_18, r_19, r_20, r_21, r_22, r_23, r_24, r_25, r_26, r_27, r_28, r_29, r_30, r_31, r_32, r_33, r_34, r_35, r_36, r_37, rp_0, rp_1, rp_26, rp_28, rp_30, rp_33, rp_35, rp_37, Option.bind_some, bRT, bRW, bWW, bW, le0, ne10, if_true, if_false, not_true_eq_false, not_false_eq_true, uI_at, uA_1, uB_1, uG_1, uI_2, x1, if_neg (encM_n hv), f_abs (N := N) (f := HH h σ) (v := v) (by omega), if_pos hab, f_putAmount hN m1 hv (by omega), m_many hM1 hn hi, h28]
      by_cases e : nI (s.2.2.1 i 0).length = nI (wrL v).length
      · rw [if_pos e]; rw [if_pos e] at t1; exact t1
      · rw [if_neg e]; rw [if_neg e] at t1; exact t1
    have hW := (hM1.W hi4).2.2.1
    have hfl : fl = if wrL v = s.2.2.1 i 0 then 0 else 1 := by
      by_cases e : wrL v = s.2.2.1 i 0
      · rw [if_pos e]
        refine t3.mpr ⟨by rw [if_pos (by rw [e])], fun j _ hj => ?_⟩
        rw [e] at hj ⊢
        rw [← e] at hj ⊢
        have := hW.2 j (by rw [← e]; exact hj)
        rw [← e] at this
        exact this
      · rw [if_neg e]
        refine t2.resolve_left (fun q => e ?_)
        obtain ⟨a, b⟩ := t3.mp q
        have hle : (s.2.2.1 i 0).length = (wrL v).length := by
          by_cases y : nI (s.2.2.1 i 0).length = nI (wrL v).length
          · have := (hl i hi4).1
            exact (nI_eq (by omega) (by omega)).mp y
          · rw [if_neg y] at a
            exact absurd a (by decide)
        refine list_ext_get hle.symm (fun j hj => ?_)
        rw [← b j (by omega) hj, hW.2 j (by omega)]
    have hs : sbut [275, 300, 284, 285] σ τ := ((sbut.uI (ks := [275, 300, 284, 285]) (by simp)).tr ((mapp_but _ _).wk (by simp))).tr (t4.wk (by simp))
    have hms : sbut [275, 300] σ (mapp (uI σ 275 28 0) (wrL v)) := (sbut.uI (by simp)).tr (mapp_but _ _)
    refine ⟨τ, by rw [ew, hfl], ?_, fm.but hs (by simp), (hs.ag (by simp)).2.2.1, (hs.ag (by simp)).2.2.1, ?_⟩
    · show RM τ (sQ s i 0 (wrL v))
      refine hM.signs hl hn hi (fun j h0 h28 => ?_) ?_ (fun k a b c d e f g _ => (hs.ag (by simp; omega)).2.2.1) (fun c hc => ?_) (fun c hc => ?_) t7 (fun j hj => t9 j (by omega) hj) (fun k hk => (hs.ag (by simp; omega)).2.2.1)
      · rw [t5, mapp_I h28, uI_ne _ _ _ _ (by omega)]
      · rw [t6, mapp_B]
        rfl
      · rw [t10 c (fun j _ hj e => hc (by omega)), (hms.ag (k := 284) (by simp)).2.2.1]
      · rw [t8 c hc, (hms.ag (k := 285) (by simp)).2.2.1]
    · rw [t5, mapp_I (by omega), uI_ne _ _ _ _ (by omega)]
