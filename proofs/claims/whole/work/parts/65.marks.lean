/-! MARKS -/
def szA (s : AS) (i m : Nat) : Int32 := abI (sz s i m)
def bgn (s : AS) (i m : Nat) : Int32 := if s.1 i 27 = 1 then (s.1 i 25 - nI (showL s m).length * (szA s i m / (2 : Int32))) / (2 : Int32) else if s.1 i 27 = 2 then s.1 i 25 - nI (showL s m).length * (szA s i m / (2 : Int32)) else 0
def mrk (s : AS) (i m w k : Nat) : Int32 :=
  if w = 0 then (showL s m).getD k 0
  else if w = 1 then (if s.1 m 21 ≤ 0 then bgn s i m + nI k * (szA s i m / (2 : Int32)) else (nI k * s.1 i 25) / s.1 m 21 + ((s.1 i 25 / s.1 m 21 - szA s i m / (2 : Int32)) / (2 : Int32)))
  else if w = 2 then (s.1 i 26 - szA s i m) / (2 : Int32)
  else if w = 3 then szA s i m
  else nI i
def mhd (i w : Nat) : Int32 := if w < 4 then 0 else nI i
/-- the lists of marks grow -/
def sX (s : AS) (c : Nat) (ls : Nat → List Int32) : AS := (s.1, s.2.1, fun i w => if i = c ∧ w < 5 then s.2.2.1 i w ++ ls w else s.2.2.1 i w, s.2.2.2)
theorem sX_c {s : AS} {c w : Nat} {ls : Nat → List Int32} (hw : w < 5) : (sX s c ls).2.2.1 c w = s.2.2.1 c w ++ ls w := by simp [sX, hw]
theorem sX_o {s : AS} {c q : Nat} {ls : Nat → List Int32} (hq : q ≠ c) : (sX s c ls).2.2.1 q = s.2.2.1 q := by funext w; simp [sX, hq]
theorem sX_X (s : AS) (c : Nat) (f g : Nat → List Int32) : sX (sX s c f) c g = sX s c (fun w => f w ++ g w) := by
  unfold sX
  congr 2
  congr 1
  funext i w
  by_cases h : i = c ∧ w < 5
  · simp [h]
  · simp [h]
theorem sX_nil (s : AS) (c : Nat) : sX s c (fun _ => []) = s := by
  unfold sX
  have : (fun i w => if i = c ∧ w < 5 then s.2.2.1 i w ++ [] else s.2.2.1 i w) = s.2.2.1 := by
    funext i w
    simp
  rw [this]
def cmark (σ : SG) (k c : Nat) (f : Nat → Int32) : SG := uI (uA (uA (uA (uA (uA σ (k + 1 + 1 + 0) c (f 0)) (k + 1 + 1 + 1) c (f 1)) (k + 1 + 1 + 2) c (f 2)) (k + 1 + 1 + 3) c (f 3)) (k + 1 + 1 + 4) c (f 4)) k 2 (nI (c + 1))
theorem cmark_but (σ : SG) (k c : Nat) (f : Nat → Int32) : sbut [k, k + 1 + 1 + 0, k + 1 + 1 + 1, k + 1 + 1 + 2, k + 1 + 1 + 3, k + 1 + 1 + 4] σ (cmark σ k c f) :=
  (((((sbut.uA (by simp)).tr (sbut.uA (by simp))).tr (sbut.uA (by simp))).tr (sbut.uA (by simp))).tr (sbut.uA (by simp))).tr (sbut.uI (by simp))
theorem e_madd {N h : Nat} {σ : SG} {s : AS} {k m i : Nat} (hk : kd k = 2) (hk1 : kd (k + 1) = 14) (hl5 : ln (k + 1) = 5) (hka : ∀ w, w < 5 → kd (k + 1 + 1 + w) = 10 ∧ ln (k + 1 + 1 + w) = m) (hm : m ≤ 400) (hK : RK σ s k m i) (hc : (s.2.2.1 i 0).length < m) (f : Nat → Int32) : DX3_add N (h + k) (f 0) (f 1) (f 2) (f 3) (f 4) (HH h σ) = some ((), HH h (cmark σ k (s.2.2.1 i 0).length f)) := by
  have hcnt : σ.1 k 2 = nI (s.2.2.1 i 0).length := hK.2.1
  have hm1 : σ.1 k 1 = nI m := hK.1
  have hlt : ∀ w, w < 5 → (s.2.2.1 i 0).length < ln (k + 1 + 1 + w) := fun w hw => by rw [(hka w hw).2]; exact hc
  have ha : ∀ (τ : SG) (w : Nat), w < 5 → aR (HH h τ) (h + (k + 1)) 4 (nI w) = some (h + (k + 1 + 1 + w)) := fun τ w hw => by
    rw [a_4 hk1 hl5, nI_clamp (by omega), if_pos ⟨nI_pos (by omega), hw⟩]
  have h0 : ∀ τ, aR (HH h τ) (h + (k + 1)) 4 (0 : Int32) = some (h + (k + 1 + 1 + 0)) := fun τ => ha τ 0 (by omega)
  have h1 : ∀ τ, aR (HH h τ) (h + (k + 1)) 4 (1 : Int32) = some (h + (k + 1 + 1 + 1)) := fun τ => ha τ 1 (by omega)
  have h2 : ∀ τ, aR (HH h τ) (h + (k + 1)) 4 (2 : Int32) = some (h + (k + 1 + 1 + 2)) := fun τ => ha τ 2 (by omega)
  have h3 : ∀ τ, aR (HH h τ) (h + (k + 1)) 4 (3 : Int32) = some (h + (k + 1 + 1 + 3)) := fun τ => ha τ 3 (by omega)
  have h4 : ∀ τ, aR (HH h τ) (h + (k + 1)) 4 (4 : Int32) = some (h + (k + 1 + 1 + 4)) := fun τ => ha τ 4 (by omega)
  simp only [DX3_add, ck_2 hk, g_2_2 hk, g_2_1 hk, g_2_0 hk, hcnt, hm1, Option.bind_some, bRT, bRW, bWW, bW, le0, ne10, if_true, if_false, not_true_eq_false, not_false_eq_true, uI_at, uA_1, uB_1, uG_1, uI_2, nI_pos (show (s.2.2.1 i 0).length < 2 ^ 31 by omega), show (nI (s.2.2.1 i 0).length < nI m) = True from eq_true (nI_lt hc (by omega)), h0, h1, h2, h3, h4, sN0 (hka 0 (by omega)).1 (hlt 0 (by omega)), sN0 (hka 1 (by omega)).1 (hlt 1 (by omega)), sN0 (hka 2 (by omega)).1 (hlt 2 (by omega)), sN0 (hka 3 (by omega)).1 (hlt 3 (by omega)), sN0 (hka 4 (by omega)).1 (hlt 4 (by omega)), p_2_2 hk, nI_1]
  rfl
theorem cmark_A {σ : SG} {k c : Nat} {f : Nat → Int32} {w : Nat} (hw : w < 5) : (cmark σ k c f).2.2.1 (k + 1 + 1 + w) c = f w := by
  show (uA (uA (uA (uA (uA σ (k + 1 + 1 + 0) c (f 0)) (k + 1 + 1 + 1) c (f 1)) (k + 1 + 1 + 2) c (f 2)) (k + 1 + 1 + 3) c (f 3)) (k + 1 + 1 + 4) c (f 4)).2.2.1 (k + 1 + 1 + w) c = f w
  rcases (show w = 0 ∨ w = 1 ∨ w = 2 ∨ w = 3 ∨ w = 4 by omega) with rfl | rfl | rfl | rfl | rfl <;> simp [uA]
theorem cmark_B {σ : SG} {k c q j : Nat} {f : Nat → Int32} (hj : j ≠ c) : (cmark σ k c f).2.2.1 q j = σ.2.2.1 q j := by
  show (uA (uA (uA (uA (uA σ (k + 1 + 1 + 0) c (f 0)) (k + 1 + 1 + 1) c (f 1)) (k + 1 + 1 + 2) c (f 2)) (k + 1 + 1 + 3) c (f 3)) (k + 1 + 1 + 4) c (f 4)).2.2.1 q j = _
  rw [uA_ne _ _ _ _ (by omega), uA_ne _ _ _ _ (by omega), uA_ne _ _ _ _ (by omega), uA_ne _ _ _ _ (by omega), uA_ne _ _ _ _ (by omega)]
theorem getD_app {l : List Int32} {x : Int32} {j : Nat} (h : j ≤ l.length) : (l ++ [x]).getD j 0 = if j = l.length then x else l.getD j 0 := by
  by_cases e : j = l.length
  · rw [if_pos e, e, List.getD_eq_getElem?_getD, List.getElem?_append_right (Nat.le_refl _)]
    simp
  · rw [if_neg e, List.getD_eq_getElem?_getD, List.getElem?_append_left (by omega), ← List.getD_eq_getElem?_getD]
theorem RK.add {σ : SG} {s : AS} {k m i : Nat} (hK : RK σ s k m i) (hc : (s.2.2.1 i 0).length < m) (f : Nat → Int32) : RK (cmark σ k (s.2.2.1 i 0).length f) (sX s i (fun w => [f w])) k m i := by
  obtain ⟨a, b, c, d⟩ := hK
  have e0 : ((sX s i (fun w => [f w])).2.2.1 i 0).length = (s.2.2.1 i 0).length + 1 := by
    rw [sX_c (by omega), List.length_append]
    rfl
  refine ⟨?_, ?_, by rw [e0]; omega, fun w hw => ⟨?_, fun j hj => ?_⟩⟩
  · show (uI _ k 2 _).1 k 1 = _
    rw [uI_ne _ _ _ _ (by omega)]
    exact a
  · rw [e0]
    exact uI_at _ _ _ _
  · rw [e0, sX_c hw, List.length_append, (d w hw).1]
    rfl
  · rw [e0] at hj
    rw [sX_c hw, getD_app (by rw [(d w hw).1]; omega), (d w hw).1]
    by_cases z : j = (s.2.2.1 i 0).length
    · rw [if_pos z, z]
      exact cmark_A hw
    · rw [if_neg z, cmark_B z]
      exact (d w hw).2 j (by omega)
theorem RC.mark {σ : SG} {s : AS} (h : RC σ s) {k m i : Nat} (hk : (k = 261 ∧ m = 31 ∧ i = 41) ∨ (k = 268 ∧ m = 400 ∧ i = 42)) (hK : RK σ s k m i) (hc : (s.2.2.1 i 0).length < m) (f : Nat → Int32) : RC (cmark σ k (s.2.2.1 i 0).length f) (sX s i (fun w => [f w])) := by
  have hq := cmark_but σ k (s.2.2.1 i 0).length f
  have hK2 := hK.add hc f
  have hi : i = 41 ∨ i = 42 := by omega
  refine ⟨⟨h.n40, by rw [(hq.ag (k := 1) (by simp; omega)).1]; exact h.nn⟩, fun q hq' => (h.F hq').cong (fun k _ _ => hq.ag (by simp; omega)) rfl rfl (sX_o (by omega)), ⟨h.view.ag (hq.ag (by simp; omega)), h.res.ag (hq.ag (by simp; omega)), h.upw.ag (hq.ag (by simp; omega))⟩, ⟨h.fai.cong (hq.ag (by simp; omega)) (hq.ag (by simp; omega)) (by rw [sX_o (by omega)]), h.dat.cong (hq.ag (by simp; omega)) (hq.ag (by simp; omega)) (by rw [sX_o (by omega)]), h.inp.cong (hq.ag (by simp; omega)) (hq.ag (by simp; omega)) (by rw [sX_o (by omega)])⟩, ?_, ?_⟩
  · rcases hk with ⟨rfl, rfl, rfl⟩ | ⟨rfl, rfl, rfl⟩
    · exact hK2
    · exact h.made.cong (fun q _ _ => hq.ag (by simp; omega)) (sX_o (by omega))
  · rcases hk with ⟨rfl, rfl, rfl⟩ | ⟨rfl, rfl, rfl⟩
    · exact h.kept.cong (fun q _ _ => hq.ag (by simp; omega)) (sX_o (by omega))
    · exact hK2
theorem rkk {k m i : Nat} (hk : (k = 261 ∧ m = 31 ∧ i = 41) ∨ (k = 268 ∧ m = 400 ∧ i = 42)) : kd k = 2 ∧ kd (k + 1) = 14 ∧ ln (k + 1) = 5 ∧ (∀ w, w < 5 → kd (k + 1 + 1 + w) = 10 ∧ ln (k + 1 + 1 + w) = m) ∧ m ≤ 400 := by
  rcases hk with ⟨rfl, rfl, rfl⟩ | ⟨rfl, rfl, rfl⟩
  · exact ⟨rfl, rfl, rfl, mk261, by omega⟩
  · exact ⟨rfl, rfl, rfl, mk268, by omega⟩
theorem RC.rk {σ : SG} {s : AS} (h : RC σ s) {k m i : Nat} (hk : (k = 261 ∧ m = 31 ∧ i = 41) ∨ (k = 268 ∧ m = 400 ∧ i = 42)) : RK σ s k m i := by
  rcases hk with ⟨rfl, rfl, rfl⟩ | ⟨rfl, rfl, rfl⟩
  · exact h.made
  · exact h.kept
/-- the marks of what is shown, one by one -/
theorem e_am81 {N h : Nat} {a : AS} (hI : Inv a) {i m : Nat} (hi : i < a.2.2.2) (hm : m < a.2.2.2) (hsl : (showL a m).length ≤ 30) {k mm c : Nat} (hk : (k = 261 ∧ mm = 31 ∧ c = 41) ∨ (k = 268 ∧ mm = 400 ∧ c = 42)) : ∀ (w j : Nat) (σ : SG) (s : AS), (showL a m).length - j < w → j ≤ (showL a m).length → RC σ s → s.1 = a.1 → s.2.2.2 = a.2.2.2 → rlist σ 244 = showL a m → (s.2.2.1 c 0).length + ((showL a m).length - j) ≤ mm → ∃ τ, DX7_addMarks_81 N w (h + 243) (h + (3 + 6 * i)) (h + k) (nI (showL a m).length) (a.1 m 21) (szA a i m) ((a.1 i 26 - szA a i m) / (2 : Int32)) (bgn a i m) (nI j) (HH h σ) = some ((), HH h τ) ∧ RC τ (sX s c (fun w => (List.range' j ((showL a m).length - j)).map (mrk a i m w))) ∧ fc σ τ := by
  have hn := hI.n40
  have hi4 : i < 40 := by omega
  obtain ⟨q1, q2, q3, q4, q5⟩ := rkk hk
  intro w
  induction w with
  | zero => intro j σ s hw; omega
  | succ w ih =>
    intro j σ s hw hj hC h1 hn2 hv hcap
    rw [DX7_addMarks_81]
    by_cases z : (showL a m).length ≤ j
    · refine ⟨σ, by rw [if_pos (nI_le z (by omega))], ?_, fc.rf⟩
      rw [show (showL a m).length - j = 0 by omega]
      have : sX s c (fun w => List.map (mrk a i m w) (List.range' j 0)) = s := sX_nil s c
      rw [this]
      exact hC
    · have hlt : j < (showL a m).length := by omega
      have hK := hC.rk hk
      have hcl : (s.2.2.1 c 0).length < mm := by omega
      have hadd := e_madd (N := N) (h := h) q1 q2 q3 q4 q5 hK hcl (fun w => mrk a i m w j)
      have hC2 := hC.mark hk hK hcl (fun w => mrk a i m w j)
      have hb := cmark_but σ k (s.2.2.1 c 0).length (fun w => mrk a i m w j)
      have hv2 : rlist (cmark σ k (s.2.2.1 c 0).length (fun w => mrk a i m w j)) 244 = showL a m := by
        rw [rlist_ag (hb.ag (by simp; omega)) (hb.ag (by simp; omega)), hv]
      obtain ⟨τ, t1, t2, t3⟩ := ih (j + 1) (cmark σ k (s.2.2.1 c 0).length (fun w => mrk a i m w j)) (sX s c (fun w => [mrk a i m w j])) (by omega) (by omega) hC2 h1 hn2 hv2 (by rw [sX_c (by omega), List.length_append]; simp; omega)
      have hg : DX5_get N (h + 244) (nI j) (HH h σ) = some ((showL a m).getD j 0) := by
        rw [e_get_l hC.view (by rw [hv]; exact hlt), hv]
      have h121 : ∀ x, x = mrk a i m 1 j → DX7_addMarks_121 N (DX7_addMarks_81 N w) (h + 243) (h + (3 + 6 * i)) (h + k) (nI (showL a m).length) (a.1 m 21) (szA a i m) ((a.1 i 26 - szA a i m) / (2 : Int32)) (bgn a i m) (nI j) x (HH h σ) = some ((), HH h τ) := fun x hx => by
        have hnum : s.1 i 0 = nI i := by rw [h1]; exact hI.num hi
        simp only [DX7_addMarks_121, o_ck, o_0, o_1, o_2, o_3, o_4, o_5, o_6, t_ck, t_0, v_ck, v_0, q_ck, q_0, q_1, q_2, q_3, q_4, wr_ck, wr_0, wr_1, wr_2, rd_ck, rd_0, rd_1, Option.bind_some, bRT, bRW, bWW, bW, le0, ne10, if_true, if_false, not_true_eq_false, not_false_eq_true, uI_at, uA_1, uB_1, uG_1, uI_2, hg, c_0 hC hi4, hnum, nI_1, hx]
        have : DX3_add N (h + k) ((showL a m).getD j 0) (mrk a i m 1 j) ((a.1 i 26 - szA a i m) / (2 : Int32)) (szA a i m) (nI i) (HH h σ) = some ((), HH h (cmark σ k (s.2.2.1 c 0).length (fun w => mrk a i m w j))) := hadd
        rw [this]
        exact t1
      refine ⟨τ, ?_, ?_, (fc.but hb (by simp; omega)).tr t3⟩
      · rw [if_neg (nI_ge hlt (by omega))]
        have hw5 : s.1 i 25 = a.1 i 25 := by rw [h1]
        by_cases cc : a.1 m 21 ≤ 0
        · rw [if_pos cc]
          refine h121 _ ?_
          simp [mrk, cc]
        · rw [if_neg cc]
          simp only [g7 hi4, Option.bind_some, bRT, bRW, bWW, bW, le0, ne10, if_true, if_false, not_true_eq_false, not_false_eq_true, uI_at, uA_1, uB_1, uG_1, uI_2, c_t5 hC hi4, hw5]
          have hpos : (0 : Int32) < a.1 m 21 := Int32.not_le.mp cc
          have hne : ¬ a.1 m 21 = 0 := fun q => by rw [q] at hpos; exact absurd hpos (by decide)
          simp only [DX7_cellX, hpos, hne, not_false_eq_true, Option.bind_some, bRT, bRW, bWW, bW, le0, ne10, if_true, if_false, not_true_eq_false, not_false_eq_true, uI_at, uA_1, uB_1, uG_1, uI_2]
          refine h121 _ ?_
          simp [mrk, cc]
      · rw [sX_X] at t2
        have : (fun w => [mrk a i m w j] ++ List.map (mrk a i m w) (List.range' (j + 1) ((showL a m).length - (j + 1)))) = (fun w => List.map (mrk a i m w) (List.range' j ((showL a m).length - j))) := by
          funext w
          rw [show (showL a m).length - j = ((showL a m).length - (j + 1)) + 1 by omega, List.range'_succ]
          rfl
        rw [this] at t2
        exact t2
def mkL (s : AS) (i m w : Nat) : List Int32 := mhd i w :: (List.range (showL s m).length).map (mrk s i m w)
theorem mkL_len (s : AS) (i m w : Nat) : (mkL s i m w).length = (showL s m).length + 1 := by simp [mkL]
theorem e_addMarks {N h : Nat} (hN : 10000 ≤ N) {σ : SG} {s : AS} (hC : RC σ s) (hI : Inv s) {i m : Nat} (hi : i < s.2.2.2) (hm : m < s.2.2.2) {k mm c : Nat} (hk : (k = 261 ∧ mm = 31 ∧ c = 41) ∨ (k = 268 ∧ mm = 400 ∧ c = 42)) (hcap : (s.2.2.1 c 0).length + ((showL s m).length + 1) ≤ mm) : ∃ τ, DX7_addMarks N (h + 243) (h + (3 + 6 * i)) (h + (3 + 6 * m)) (h + k) (HH h σ) = some ((), HH h τ) ∧ RC τ (sX s c (mkL s i m)) ∧ fc σ τ := by
  have hn := hI.n40
  have hi4 : i < 40 := by omega
  have hm4 : m < 40 := by omega
  have hsl := showL_len hC hI hm
  obtain ⟨q1, q2, q3, q4, q5⟩ := rkk hk
  have hC1 := hC.shown (showL s m)
  have hrc : (rapp (uI σ 244 1 0) 244 (showL s m)).1 244 1 = nI (showL s m).length := by
    rw [hC1.view.2.2.1, ← rlist_len, shown_list hsl]
  have hK := hC1.rk hk
  have hcl : (s.2.2.1 c 0).length < mm := by omega
  have hadd := e_madd (N := N) (h := h) q1 q2 q3 q4 q5 hK hcl (mhd i)
  have hC2 := hC1.mark hk hK hcl (mhd i)
  have hb := cmark_but (rapp (uI σ 244 1 0) 244 (showL s m)) k (s.2.2.1 c 0).length (mhd i)
  have hv2 : rlist (cmark (rapp (uI σ 244 1 0) 244 (showL s m)) k (s.2.2.1 c 0).length (mhd i)) 244 = showL s m := by
    rw [rlist_ag (hb.ag (by simp; omega)) (hb.ag (by simp; omega)), shown_list hsl]
  obtain ⟨τ, t1, t2, t3⟩ := e_am81 (N := N) (h := h) hI hi hm hsl hk N 0 _ (sX s c (fun w => [mhd i w])) (by omega) (by omega) hC2 rfl rfl hv2 (by rw [sX_c (by omega), List.length_append]; simp; omega)
  refine ⟨τ, ?_, ?_, (shown_fc.tr (fc.but hb (by simp; omega))).tr t3⟩
  · have h31 : ∀ n, n = szk s m → DX7_addMarks_31 N (h + 243) (h + (3 + 6 * i)) (h + k) (nI (showL s m).length) (s.1 m 21) (h + (3 + 6 * i)) (nI n) (HH h (rapp (uI σ 244 1 0) 244 (showL s m))) = some ((), HH h τ) := fun n hnz => by
      have hb : DX7_beginning N (h + (3 + 6 * i)) (nI (showL s m).length * (abI (sz s i m) / (2 : Int32))) (HH h (rapp (uI σ 244 1 0) 244 (showL s m))) = some (bgn s i m) := by
        simp only [DX7_beginning, Option.bind_some, bRT, bRW, bWW, bW, le0, ne10, if_true, if_false, not_true_eq_false, not_false_eq_true, uI_at, uA_1, uB_1, uG_1, uI_2, g7 hi4, c_t5 hC1 hi4, c_t7 hC1 hi4, bgn, szA]
        by_cases a : s.1 i 27 = 1
        · rw [if_pos a, if_pos a]
        · rw [if_neg a, if_neg a]
          by_cases b : s.1 i 27 = 2
          · rw [if_pos b, if_pos b]
          · rw [if_neg b, if_neg b]
      have hz : szf (s.1 i 25) (s.1 i 26) n = sz s i m := by rw [hnz]; rfl
      simp only [DX7_addMarks_31, e_sz hN hC1 hi4, hz, Option.bind_some, bRT, bRW, bWW, bW, le0, ne10, if_true, if_false, not_true_eq_false, not_false_eq_true, uI_at, uA_1, uB_1, uG_1, uI_2, g7 hi4, c_t6 hC1 hi4, hb, c_0 hC1 hi4, hI.num hi]
      have : DX3_add N (h + k) (0 : Int32) (0 : Int32) (0 : Int32) (0 : Int32) (nI i) (HH h (rapp (uI σ 244 1 0) 244 (showL s m))) = some ((), HH h (cmark (rapp (uI σ 244 1 0) 244 (showL s m)) k (s.2.2.1 c 0).length (mhd i))) := hadd
      rw [this]
      exact t1
    simp only [DX7_addMarks, o_ck, o_0, o_1, o_2, o_3, o_4, o_5, o_6, t_ck, t_0, v_ck, v_0, q_ck, q_0, q_1, q_2, q_3, q_4, wr_ck, wr_0, wr_1, wr_2, rd_ck, rd_0, rd_1, Option.bind_some, bRT, bRW, bWW, bW, le0, ne10, if_true, if_false, not_true_eq_false, not_false_eq_true, uI_at, uA_1, uB_1, uG_1, uI_2, e_show hN hC hI hm, e_count (r := 244) rfl, hrc, g7 hm4, c_t1 hC1 hm4]
    by_cases cc : s.1 m 21 ≤ 0
    · rw [if_pos cc]
      exact h31 _ (by unfold szk; rw [if_pos cc])
    · obtain ⟨d, hd, e2⟩ := (hI.V hm).2.1
      rw [if_neg cc]
      have := h31 d (by unfold szk; rw [if_neg cc, e2, nI_clamp (by omega)])
      rw [← e2] at this
      exact this
  · rw [sX_X, Nat.sub_zero] at t2
    have : (fun w => [mhd i w] ++ List.map (mrk s i m w) (List.range' 0 (showL s m).length)) = mkL s i m := by
      funext w
      unfold mkL
      rw [List.range_eq_range']
      rfl
    rw [this] at t2
    exact t2
