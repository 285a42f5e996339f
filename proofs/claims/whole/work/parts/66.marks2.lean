/-! MARKS, in the reference -/
theorem szf_c (w g : Int32) (n : Nat) : szf w g n = 96 ∨ szf w g n = 48 ∨ szf w g n = 24 ∨ szf w g n = 12 ∨ szf w g n = 6 ∨ szf w g n = -6 := by
  unfold szf
  repeat' split
  all_goals simp
theorem f_absz {N : Nat} {f : HF} (s : AS) (i m : Nat) : (DX10_abs N (sz s i m).toInt64 f).map Int64.toInt32 = some (szA s i m) := by
  unfold szA
  have : sz s i m = 96 ∨ sz s i m = 48 ∨ sz s i m = 24 ∨ sz s i m = 12 ∨ sz s i m = 6 ∨ sz s i m = -6 := szf_c _ _ _
  rcases this with e | e | e | e | e | e <;> rw [e] <;> rfl
def mmark (σ : SG) (T q : Nat) (f : Nat → Int32) : SG := uA (uA (uA (uA σ T (4 * q) (f 0)) T (4 * q + 1) (f 1)) T (4 * q + 2) (f 2)) T (4 * q + 3) (f 3)
theorem mmark_but (σ : SG) (T q : Nat) (f : Nat → Int32) : sbut [T] σ (mmark σ T q f) := (((sbut.uA (by simp)).tr (sbut.uA (by simp))).tr (sbut.uA (by simp))).tr (sbut.uA (by simp))
theorem mmark_A {σ : SG} {T q : Nat} {f : Nat → Int32} {w : Nat} (hw : w < 4) : (mmark σ T q f).2.2.1 T (4 * q + w) = f w := by
  unfold mmark
  rcases (show w = 0 ∨ w = 1 ∨ w = 2 ∨ w = 3 by omega) with rfl | rfl | rfl | rfl <;> simp [uA]
theorem mmark_B {σ : SG} {T q c : Nat} {f : Nat → Int32} (hc : c < 4 * q ∨ 4 * q + 3 < c) : (mmark σ T q f).2.2.1 T c = σ.2.2.1 T c := by
  unfold mmark
  rw [uA_ne _ _ _ _ (by omega), uA_ne _ _ _ _ (by omega), uA_ne _ _ _ _ (by omega), uA_ne _ _ _ _ (by omega)]
theorem f_mark {N h : Nat} {σ : SG} {T q : Nat} (hT : T = 301 ∨ T = 302) (hq : q < 40) (f : Nat → Int32) : DX10_mark N (h + T) (nI q) (f 0) (f 1) (f 2) (f 3) (HH h σ) = some ((), HH h (mmark σ T q f)) := by
  have hk : kd T = 10 ∧ ln T = 160 := by rcases hT with rfl | rfl <;> exact ⟨rfl, rfl⟩
  have e1 : nI (4 * q) + (1 : Int32) = nI (4 * q + 1) := nI_add _ 1
  have e2 : nI (4 * q) + (2 : Int32) = nI (4 * q + 2) := nI_add _ 2
  have e3 : nI (4 * q) + (3 : Int32) = nI (4 * q + 3) := nI_add _ 3
  simp only [DX10_mark, n4, e1, e2, e3, sN0 hk.1 (show 4 * q < ln T by rw [hk.2]; omega), sN0 hk.1 (show 4 * q + 1 < ln T by rw [hk.2]; omega), sN0 hk.1 (show 4 * q + 2 < ln T by rw [hk.2]; omega), sN0 hk.1 (show 4 * q + 3 < ln T by rw [hk.2]; omega), Option.bind_some, bRT, bRW, bWW, bW, le0, ne10, if_true, if_false, not_true_eq_false, not_false_eq_true, uI_at, uA_1, uB_1, uG_1, uI_2]
  rfl
theorem f_mk94 {N h : Nat} {a : AS} {i m : Nat} (hi4 : i < 40) (hsl : (showL a m).length ≤ 30) {T : Nat} (hT : T = 301 ∨ T = 302) : ∀ (w j : Nat) (σ : SG), (showL a m).length - j < w → j ≤ (showL a m).length → σ.1 275 28 = nI (showL a m).length → (∀ q, q < (showL a m).length → σ.2.2.1 300 q = (showL a m).getD q 0) → σ.2.2.1 281 i = a.1 i 26 → ∃ τ, DX10_make_94 N w (h + 275) (nI i) (h + T) (szA a i m) (a.1 m 21) (a.1 i 25) (bgn a i m) (nI j) (HH h σ) = some (nI ((showL a m).length + 1), HH h τ) ∧ sbut [T] σ τ ∧ (∀ c, c < 4 * (j + 1) → τ.2.2.1 T c = σ.2.2.1 T c) ∧ ∀ q, j ≤ q → q < (showL a m).length → ∀ w, w < 4 → τ.2.2.1 T (4 * (q + 1) + w) = mrk a i m w q := by
  intro w
  induction w with
  | zero => intro j σ hw; omega
  | succ w ih =>
    intro j σ hw hj h28 h300 h281
    simp only [DX10_make_94, r_ck, r_0, r_1, r_2, r_3, r_4, r_5, r_6, r_7, r_8, r_9, r_10, r_11, r_12, r_13, r_14, r_15, r_16, r_17, r_18, r_19, r_20, r_21, r_22, r_23, r_24, r_25, r_26, r_27, r_28, r_29, r_30, r_31, r_32, r_33, r_34, r_35, r_36, r_37, rp_0, rp_1, rp_26, rp_28, rp_30, rp_33, rp_35, rp_37, Option.bind_some, bRT, bRW, bWW, bW, le0, ne10, if_true, if_false, not_true_eq_false, not_false_eq_true, uI_at, uA_1, uB_1, uG_1, uI_2, h28]
    by_cases z : (showL a m).length ≤ j
    · refine ⟨σ, by rw [if_pos (nI_le z (by omega)), nI_1], sbut.rf, fun _ _ => rfl, fun q h1 h2 => by omega⟩
    · have hlt : j < (showL a m).length := by omega
      have hb := mmark_but σ T (j + 1) (fun w => mrk a i m w j)
      have a275 := hb.ag (k := 275) (by rcases hT with rfl | rfl <;> simp)
      have a300 := hb.ag (k := 300) (by rcases hT with rfl | rfl <;> simp)
      have a281 := hb.ag (k := 281) (by rcases hT with rfl | rfl <;> simp)
      obtain ⟨τ, t1, t2, t3, t4⟩ := ih (j + 1) (mmark σ T (j + 1) (fun w => mrk a i m w j)) (by omega) (by omega) (by rw [a275.1]; exact h28) (fun q hq => by rw [a300.2.2.1]; exact h300 q hq) (by rw [a281.2.2.1]; exact h281)
      have h142 : ∀ x, x = mrk a i m 1 j → DX10_make_142 N (DX10_make_94 N w) (h + 275) (nI i) (h + T) (szA a i m) (a.1 m 21) (a.1 i 25) (bgn a i m) (nI j) x (HH h σ) = some (nI ((showL a m).length + 1), HH h τ) := fun x hx => by
        have hm : DX10_mark N (h + T) (nI (j + 1)) ((showL a m).getD j 0) x ((a.1 i 26 - szA a i m) / (2 : Int32)) (szA a i m) (HH h σ) = some ((), HH h (mmark σ T (j + 1) (fun w => mrk a i m w j))) := by
          rw [hx]
          exact f_mark hT (by omega) (fun w => mrk a i m w j)
        simp only [DX10_make_142, r_ck, r_0, r_1, r_2, r_3, r_4, r_5, r_6, r_7, r_8, r_9, r_10, r_11, r_12, r_13, r_14, r_15, r_16, r_17, r_18, r_19, r_20, r_21, r_22, r_23, r_24, r_25, r_26, r_27, r_28, r_29, r_30, r_31, r_32, r_33, r_34, r_35, r_36, r_37, rp_0, rp_1, rp_26, rp_28, rp_30, rp_33, rp_35, rp_37, Option.bind_some, bRT, bRW, bWW, bW, le0, ne10, if_true, if_false, not_true_eq_false, not_false_eq_true, uI_at, uA_1, uB_1, uG_1, uI_2, aN0 (k := 300) rfl (show j < ln 300 from show j < 64 by omega), h300 j hlt, aN0 (k := 281) rfl (show i < ln 281 from hi4), h281, nI_1, hm]
        exact t1
      refine ⟨τ, ?_, hb.tr t2, fun c hc => ?_, fun q h1 h2 w' hw' => ?_⟩
      · rw [if_neg (nI_ge hlt (by omega))]
        by_cases cc : a.1 m 21 ≤ 0
        · rw [if_pos cc]
          refine h142 _ ?_
          simp [mrk, cc]
        · have hpos : (0 : Int32) < a.1 m 21 := Int32.not_le.mp cc
          have hne : ¬ a.1 m 21 = 0 := fun q => by rw [q] at hpos; exact absurd hpos (by decide)
          rw [if_neg cc, if_pos hne, if_pos hne]
          refine h142 _ ?_
          simp [mrk, cc]
      · rw [t3 c (by omega), mmark_B (by omega)]
      · by_cases e : q = j
        · subst e
          rw [t3 _ (by omega)]
          exact mmark_A hw'
        · exact t4 q (by omega) h2 w' hw'
theorem mkL_0 (s : AS) (i m : Nat) {w : Nat} (hw : w < 4) : (mkL s i m w).getD 0 0 = 0 := by
  simp [mkL, mhd, hw]
theorem mkL_s (s : AS) (i m w : Nat) {q : Nat} (hq : q < (showL s m).length) : (mkL s i m w).getD (q + 1) 0 = mrk s i m w q := by
  unfold mkL
  rw [List.getD_eq_getElem?_getD, List.getElem?_cons_succ, List.getElem?_map, List.getElem?_range hq]
  rfl
theorem f_make {N h : Nat} (hN : 10000 ≤ N) {σ : SG} {s : AS} (hM : RM σ s) (hI : Inv s) {i m : Nat} (hi : i < s.2.2.2) (hm : m < s.2.2.2) (e : s.1 i 4 = nI m) (hl : (s.2.2.1 m 0).length ≤ 30 ∧ (s.2.2.1 m 1).length ≤ 12) (hsl : (showL s m).length ≤ 30) (hsz : szk s m ≤ 30) {T : Nat} (hT : T = 301 ∨ T = 302) : ∃ τ, DX10_make N (h + 275) (nI i) (h + T) (HH h σ) = some (nI ((showL s m).length + 1), HH h τ) ∧ sbut [275, 300, T] σ τ ∧ (∀ j, j ≠ 28 → τ.1 275 j = σ.1 275 j) ∧ ∀ q, q < (showL s m).length + 1 → ∀ w, w < 4 → τ.2.2.1 T (4 * q + w) = (mkL s i m w).getD q 0 := by
  have hn := hI.n40
  have hi4 : i < 40 := by omega
  have hM1 := (hM.rsz 0).mapp (showL s m)
  obtain ⟨k0, r0⟩ := mr0 σ
  obtain ⟨k1, r1⟩ := mstep k0 (showL s m) (by omega)
  rw [r0, Nat.zero_add] at r1
  have hI28 : (mapp (uI σ 275 28 0) (showL s m)).1 275 28 = nI (showL s m).length := by rw [k1.1, r1]
  have hrow : ∀ q, q < (showL s m).length → (mapp (uI σ 275 28 0) (showL s m)).2.2.1 300 q = (showL s m).getD q 0 := fun q hq => by
    rw [mlist_get (by rw [r1]; exact hq), mapp_list _ (by rw [r0]; omega), mlist_0]
    rfl
  have hb := mmark_but (mapp (uI σ 275 28 0) (showL s m)) T 0 (fun _ => 0)
  have a275 := hb.ag (k := 275) (by rcases hT with rfl | rfl <;> simp)
  have a300 := hb.ag (k := 300) (by rcases hT with rfl | rfl <;> simp)
  have a281 := hb.ag (k := 281) (by rcases hT with rfl | rfl <;> simp)
  obtain ⟨τ, t1, t2, t3, t4⟩ := f_mk94 (N := N) (h := h) (a := s) hi4 hsl hT N 0 (mmark (mapp (uI σ 275 28 0) (showL s m)) T 0 (fun _ => 0)) (by omega) (by omega) (by rw [a275.1]; exact hI28) (fun q hq => by rw [a300.2.2.1]; exact hrow q hq) (by rw [a281.2.2.1]; exact (hM1.F hi).1.2.2.2.2.2)
  have hsb : sbut [275, 300, T] σ τ := (((sbut.uI (by simp)).tr ((mapp_but (showL s m) _).wk (by simp))).tr (hb.wk (by simp))).tr (t2.wk (by simp))
  refine ⟨τ, ?_, hsb, fun j hj => ?_, fun q hq w hw => ?_⟩
  · have h80 : ∀ b, b = bgn s i m → DX10_make_80 N (h + 275) (nI i) (h + T) (szA s i m) (s.1 m 21) (s.1 i 25) b (HH h (mapp (uI σ 275 28 0) (showL s m))) = some (nI ((showL s m).length + 1), HH h τ) := fun b hb' => by
      have hm0 : DX10_mark N (h + T) (nI 0) 0 0 0 0 (HH h (mapp (uI σ 275 28 0) (showL s m))) = some ((), HH h (mmark (mapp (uI σ 275 28 0) (showL s m)) T 0 (fun _ => 0))) := f_mark hT (by omega) (fun _ => 0)
      rw [nI_0] at hm0
      rw [nI_0] at t1
      simp only [DX10_make_80, hm0, Option.bind_some, bRT, bRW, bWW, bW, le0, ne10, if_true, if_false, not_true_eq_false, not_false_eq_true, uI_at, uA_1, uB_1, uG_1, uI_2, hb']
      exact t1
    have habs := f_absz (N := N) (f := HH h (mapp (uI σ 275 28 0) (showL s m))) s i m
    obtain ⟨ab, e1, e2⟩ := Option.map_eq_some_iff.mp habs
    simp only [DX10_make, r_ck, r_0, r_1, r_2, r_3, r_4, r_5, r_6, r_7, r_8, r_9, r_10, r_11, r_12, r_13, r_14, r_15, r_16, r_17, r_18, r_19, r_20, r_21, r_22, r_23, r_24, r_25, r_26, r_27, r_28, r_29, r_30, r_31, r_32, r_33, r_34, r_35, r_36, r_37, rp_0, rp_1, rp_26, rp_28, rp_30, rp_33, rp_35, rp_37, Option.bind_some, bRT, bRW, bWW, bW, le0, ne10, if_true, if_false, not_true_eq_false, not_false_eq_true, uI_at, uA_1, uB_1, uG_1, uI_2, m_fst hM hn hi, e, f_sizeOf hN hM hI hi hm e hl hsl hsz, e1, f_cells hM1 hI hm, m_wid hM1 hn hi, hI28, m_sid hM1 hn hi, e2]
    rcases hI.side hi with d | d | d
    · rw [if_pos d]
      refine h80 _ ?_
      unfold bgn
      rw [d, if_neg (by decide), if_neg (by decide)]
    · rw [d, if_neg (by decide), if_pos rfl]
      refine h80 _ ?_
      unfold bgn
      rw [if_pos d]
    · rw [d, if_neg (by decide), if_neg (by decide)]
      refine h80 _ ?_
      unfold bgn
      rw [d, if_neg (by decide), if_pos rfl]
  · rw [(t2.ag (k := 275) (by rcases hT with rfl | rfl <;> simp)).1, a275.1, mapp_I hj, uI_ne _ _ _ _ (by omega)]
  · cases q with
    | zero =>
      rw [mkL_0 s i m hw, t3 _ (by omega)]
      exact mmark_A (q := 0) hw
    | succ q =>
      rw [mkL_s s i m w (by omega)]
      exact t4 q (by omega) (by omega) w hw
/-! appearance -/
def sM (s : AS) (c : Nat) (ls : Nat → List Int32) : AS := (s.1, s.2.1, fun i w => if i = c ∧ w < 5 then ls w else s.2.2.1 i w, s.2.2.2)
theorem sM_c {s : AS} {c w : Nat} {ls : Nat → List Int32} (hw : w < 5) : (sM s c ls).2.2.1 c w = ls w := by simp [sM, hw]
theorem sM_o {s : AS} {c q : Nat} {ls : Nat → List Int32} (hq : q ≠ c) : (sM s c ls).2.2.1 q = s.2.2.1 q := by funext w; simp [sM, hq]
theorem sM_X (s : AS) (c : Nat) (f : Nat → List Int32) : sX (sM s c (fun _ => [])) c f = sM s c f := by
  unfold sX sM
  congr 2
  congr 1
  funext i w
  by_cases h : i = c ∧ w < 5
  · simp [h]
  · simp [h]
theorem RC.mclear {σ : SG} {s : AS} (h : RC σ s) : RC (uI σ 261 2 0) (sM s 41 (fun _ => [])) := by
  have hq : sbut [261] σ (uI σ 261 2 0) := sbut.uI (by simp)
  refine ⟨⟨h.n40, by rw [(hq.ag (k := 1) (by simp)).1]; exact h.nn⟩, fun q hq' => (h.F hq').cong (fun k _ _ => hq.ag (by simp; omega)) rfl rfl (sM_o (by omega)), ⟨h.view.ag (hq.ag (by simp)), h.res.ag (hq.ag (by simp)), h.upw.ag (hq.ag (by simp))⟩, ⟨h.fai.cong (hq.ag (by simp)) (hq.ag (by simp)) (by rw [sM_o (by omega)]), h.dat.cong (hq.ag (by simp)) (hq.ag (by simp)) (by rw [sM_o (by omega)]), h.inp.cong (hq.ag (by simp)) (hq.ag (by simp)) (by rw [sM_o (by omega)])⟩, ?_, h.kept.cong (fun q _ _ => hq.ag (by simp; omega)) (sM_o (by omega))⟩
  obtain ⟨a, b, c, d⟩ := h.made
  refine ⟨?_, ?_, ?_, fun w hw => ⟨?_, fun j hj => ?_⟩⟩
  · rw [uI_ne _ _ _ _ (by omega)]; exact a
  · rw [sM_c (by omega), uI_at]; rfl
  · rw [sM_c (by omega)]; simp
  · rw [sM_c hw, sM_c (by omega)]
  · rw [sM_c (by omega)] at hj; exact absurd hj (by simp)
theorem RM.madeM {σ τ : SG} {s : AS} (h : RM σ s) {ls : Nat → List Int32} (h1 : ∀ j, j ≠ 0 → j ≠ 28 → j ≠ 30 → τ.1 275 j = σ.1 275 j) (h2 : ∀ k, 276 ≤ k → k ≤ 305 → k ≠ 297 → k ≠ 298 → k ≠ 300 → k ≠ 301 → k ≠ 302 → τ.2.2.1 k = σ.2.2.1 k) (h3 : τ.2.2.2 290 = σ.2.2.2 290 ∧ τ.2.2.2 291 = σ.2.2.2 291) (h4 : τ.1 275 30 = nI (ls 0).length) (h5 : ∀ w, w < 4 → ∀ q, q < (ls 0).length → τ.2.2.1 301 (4 * q + w) = (ls w).getD q 0) : RM τ (sM s 41 ls) := by
  have h2' : ∀ k, 276 ≤ k → k ≤ 296 → τ.2.2.1 k = σ.2.2.1 k := fun k a b => h2 k a (by omega) (by omega) (by omega) (by omega) (by omega) (by omega)
  refine ⟨by rw [h1 1 (by omega) (by omega) (by omega)]; exact h.nn, fun i hi => (h.F hi).cong (fun k _ _ _ _ _ _ _ => by rw [h2' k (by omega) (by omega)]) ⟨by rw [h3.1], by rw [h3.2]⟩ rfl rfl (fun _ => ⟨rfl, rfl⟩), fun i hi => (h.W hi).cong (fun k _ _ _ _ _ => by rw [h2' k (by omega) (by omega)]) (fun j _ => by rw [h2' 284 (by omega) (by omega)]) (fun j _ => by rw [h2' 287 (by omega) (by omega)]) (fun j _ => by rw [h2' 289 (by omega) (by omega)]) rfl (sM_o (by omega)), ⟨?_, ?_, ?_⟩, ⟨?_, fun w hw q hq => ?_⟩, ?_⟩
  · exact h.fai.cong (h1 _ (by omega) (by omega) (by omega)) (h2 _ (by omega) (by omega) (by omega) (by omega) (by omega) (by omega) (by omega)) (by rw [sM_o (by omega)])
  · exact h.dat.cong (h1 _ (by omega) (by omega) (by omega)) (h2 _ (by omega) (by omega) (by omega) (by omega) (by omega) (by omega) (by omega)) (by rw [sM_o (by omega)])
  · exact h.inp.cong (h1 _ (by omega) (by omega) (by omega)) (h2 _ (by omega) (by omega) (by omega) (by omega) (by omega) (by omega) (by omega)) (by rw [sM_o (by omega)])
  · rw [sM_c (by omega)]; exact h4
  · rw [sM_c (by omega)] at hq
    rw [sM_c (by omega)]
    exact h5 w hw q hq
  · exact h.kept.cong (h1 _ (by omega) (by omega) (by omega)) (h2 _ (by omega) (by omega) (by omega) (by omega) (by omega) (by omega) (by omega)) (sM_o (by omega))
theorem showL_cong {s t : AS} {m : Nat} (h1 : t.1 = s.1) (h3 : t.2.2.1 m = s.2.2.1 m) : showL t m = showL s m := by
  unfold showL
  rw [h1, h3]
theorem mkL_cong {s t : AS} {i m : Nat} (h1 : t.1 = s.1) (h3 : t.2.2.1 m = s.2.2.1 m) : mkL t i m = mkL s i m := by
  have e := showL_cong h1 h3
  have e2 : szA t i m = szA s i m := by
    unfold szA sz szk
    rw [e, h1]
  have e3 : bgn t i m = bgn s i m := by
    unfold bgn
    rw [e, e2, h1]
  funext w
  unfold mkL
  rw [e]
  congr 1
  apply List.map_congr_left
  intro k _
  unfold mrk
  rw [e, e2, e3, h1]
theorem op_appearance {N h : Nat} (hN : 10000 ≤ N) {σ : SG} {s : AS} (hS : St σ s) (x : Int32) : Out h σ s ex2 (DX9_appearance N h x (HH h σ)) (fun σ' => DX10_appearance N (h + 275) x (HH h σ')) := by
  have hS' := hS
  obtain ⟨hC, hM, hI⟩ := hS
  have hn := hI.n40
  rcases ixc x hn with hx | ⟨i, hi, rfl⟩
  · refine Out.thr hS' 1 (by omega) 0 ?_ (fun σ' hM' => ?_)
    · simp only [DX9_appearance, o_ck, o_0, o_1, o_2, o_3, o_4, o_5, o_6, t_ck, t_0, v_ck, v_0, q_ck, q_0, q_1, q_2, q_3, q_4, wr_ck, wr_0, wr_1, wr_2, rd_ck, rd_0, rd_1, Option.bind_some, bRT, bRW, bWW, bW, le0, ne10, if_true, if_false, not_true_eq_false, not_false_eq_true, uI_at, uA_1, uB_1, uG_1, uI_2, e_mw1 hC hx]
      rfl
    · simp only [DX10_appearance, r_ck, r_0, r_1, r_2, r_3, r_4, r_5, r_6, r_7, r_8, r_9, r_10, r_11, r_12, r_13, r_14, r_15, r_16, r_17, r_18, r_19, r_20, r_21, r_22, r_23, r_24, r_25, r_26, r_27, r_28, r_29, r_30, r_31, r_32, r_33, r_34, r_35, r_36, r_37, rp_0, rp_1, rp_26, rp_28, rp_30, rp_33, rp_35, rp_37, Option.bind_some, bRT, bRW, bWW, bW, le0, ne10, if_true, if_false, not_true_eq_false, not_false_eq_true, uI_at, uA_1, uB_1, uG_1, uI_2, e_cf1 hM' hx, le1]
      rfl
  · obtain ⟨m, hm, e, ek⟩ := hI.f hi
    have hm4 : m < 40 := by omega
    have hi4 : i < 40 := by omega
    have hl := hC.len hm4
    have hsl := showL_len hC hI hm
    have hsz := szk_le hC hI hm
    by_cases hk : s.1 i 1 = 0
    · refine Out.thr hS' 2 (by omega) 0 ?_ (fun σ' hM' => ?_)
      · simp only [DX9_appearance, o_ck, o_0, o_1, o_2, o_3, o_4, o_5, o_6, t_ck, t_0, v_ck, v_0, q_ck, q_0, q_1, q_2, q_3, q_4, wr_ck, wr_0, wr_1, wr_2, rd_ck, rd_0, rd_1, Option.bind_some, bRT, bRW, bWW, bW, le0, ne10, if_true, if_false, not_true_eq_false, not_false_eq_true, uI_at, uA_1, uB_1, uG_1, uI_2, e_mw2 hC hi hm e (ek.trans hk)]
        rfl
      · simp only [DX10_appearance, r_ck, r_0, r_1, r_2, r_3, r_4, r_5, r_6, r_7, r_8, r_9, r_10, r_11, r_12, r_13, r_14, r_15, r_16, r_17, r_18, r_19, r_20, r_21, r_22, r_23, r_24, r_25, r_26, r_27, r_28, r_29, r_30, r_31, r_32, r_33, r_34, r_35, r_36, r_37, rp_0, rp_1, rp_26, rp_28, rp_30, rp_33, rp_35, rp_37, Option.bind_some, bRT, bRW, bWW, bW, le0, ne10, if_true, if_false, not_true_eq_false, not_false_eq_true, uI_at, uA_1, uB_1, uG_1, uI_2, e_cf2 hM' hn hi hk, le2]
        rfl
    · have hkm : ¬ s.1 m 1 = 0 := by rw [ek]; exact hk
      have hC0 := hC.mclear
      have hI0 : Inv (sM s 41 (fun _ => [])) := hI.lists rfl rfl rfl (fun q hq => sM_o (by omega))
      have es : showL (sM s 41 (fun _ => [])) m = showL s m := showL_cong rfl (sM_o (by omega))
      have em : mkL (sM s 41 (fun _ => [])) i m = mkL s i m := mkL_cong rfl (sM_o (by omega))
      obtain ⟨τ, t1, t2, t3⟩ := e_addMarks (N := N) (h := h) hN hC0 hI0 (i := i) (m := m) hi hm (Or.inl ⟨rfl, rfl, rfl⟩) (by rw [sM_c (by omega), es]; simp; omega)
      rw [em, sM_X] at t2
      refine ⟨sM s 41 (mkL s i m), τ, .inl (nI ((showL s m).length + 1)), ?_, t2, hI.lists rfl rfl rfl (fun q hq => sM_o (by omega)), (fc.I (by omega)).tr t3, fun σ' hM' => ?_⟩
      · have hcnt : τ.1 261 2 = nI ((showL s m).length + 1) := by
          rw [t2.made.2.1, sM_c (by omega), mkL_len]
        simp only [DX9_appearance, DX3_clear, DX3_count, o_ck, o_0, o_1, o_2, o_3, o_4, o_5, o_6, t_ck, t_0, v_ck, v_0, q_ck, q_0, q_1, q_2, q_3, q_4, wr_ck, wr_0, wr_1, wr_2, rd_ck, rd_0, rd_1, Option.bind_some, bRT, bRW, bWW, bW, le0, ne10, if_true, if_false, not_true_eq_false, not_false_eq_true, uI_at, uA_1, uB_1, uG_1, uI_2, e_mw hC hi hm e hkm, ck_2 (k := 261) rfl, p_2_2 (k := 261) rfl, e_tg hC0 (show i < (sM s 41 (fun _ => [])).2.2.2 from hi), t1, g_2_2 (k := 261) rfl, hcnt]
      · have hM0 := hM'.thr 0
        obtain ⟨υ, u1, u2, u3, u4⟩ := f_make (N := N) (h := h) hN hM0 hI hi hm e hl hsl hsz (Or.inl rfl)
        refine ⟨nI ((showL s m).length + 1), uI υ 275 30 (nI ((showL s m).length + 1)), ?_, hM0.madeM (fun j _ h28 h30 => ?_) (fun k _ _ _ _ h300 h301 _ => ?_) ⟨?_, ?_⟩ ?_ (fun w hw q hq => ?_), ?_, Or.inl ⟨rfl, ?_⟩⟩
        · simp only [DX10_appearance, r_ck, r_0, r_1, r_2, r_3, r_4, r_5, r_6, r_7, r_8, r_9, r_10, r_11, r_12, r_13, r_14, r_15, r_16, r_17, r_18, r_19, r_20, r_21, r_22, r_23, r_24, r_25, r_26, r_27, r_28, r_29, r_30, r_31, r_32, r_33, r_34, r_35, r_36, r_37, rp_0, rp_1, rp_26, rp_28, rp_30, rp_33, rp_35, rp_37, Option.bind_some, bRT, bRW, bWW, bW, le0, ne10, if_true, if_false, not_true_eq_false, not_false_eq_true, uI_at, uA_1, uB_1, uG_1, uI_2, e_cf hM' hn hi hk, u1]
        · rw [uI_ne _ _ _ _ (by omega)]; exact u3 j h28
        · exact (u2.ag (k := k) (by simp; omega)).2.2.1
        · exact (u2.ag (k := 290) (by simp)).2.2.2
        · exact (u2.ag (k := 291) (by simp)).2.2.2
        · rw [uI_at, mkL_len]
        · rw [mkL_len] at hq
          exact u4 q hq w hw
        · exact (fm.I.tr (fm.but u2 (by simp))).tr fm.I
        · rw [uI_ne _ _ _ _ (by omega), u3 0 (by omega), uI_at]
