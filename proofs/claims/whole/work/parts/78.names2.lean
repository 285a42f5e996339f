/-! READING: names, in the class -/
theorem RC.inlen {σ : SG} {s : AS} (hC : RC σ s) : (s.2.2.1 40 2).length ≤ 3000 := by
  have := hC.inp
  rw [← this.2, rlist_len]
  exact this.1.2.2.2
theorem e_getI {N h : Nat} {σ : SG} {s : AS} (hC : RC σ s) {q : Nat} (hq : q < (s.2.2.1 40 2).length) : DX5_get N (h + 259) (nI q) (HH h σ) = some ((s.2.2.1 40 2).getD q 0) := by
  have := hC.inp
  rw [← this.2] at hq ⊢
  exact e_get_l this.1 hq
theorem e_nx3 {N h : Nat} {σ : SG} {s : AS} (hC : RC σ s) (c : Int32) {e : Nat} (he : e ≤ (s.2.2.1 40 2).length) : ∀ (w p : Nat), p ≤ e → e - p < w → DX4_next_3 N (HH h σ) w (h + 258) c (nI e) (nI p) = some (nI (nxt (s.2.2.1 40 2) c (e - p) p)) := by
  have hlen := hC.inlen
  intro w
  induction w with
  | zero => intro p _ hw; omega
  | succ w ih =>
    intro p hp hw
    rw [DX4_next_3]
    by_cases z : e ≤ p
    · obtain rfl : p = e := by omega
      rw [if_pos (nI_le z (by omega)), Nat.sub_self]
      rfl
    · rw [if_neg (nI_ge (show p < e by omega) (by omega)), show e - p = (e - (p + 1)) + 1 by omega, nxt]
      simp only [o_ck, o_0, o_1, o_2, o_3, o_4, o_5, o_6, t_ck, t_0, v_ck, v_0, q_ck, q_0, q_1, q_2, q_3, q_4, wr_ck, wr_0, wr_1, wr_2, rd_ck, rd_0, rd_1, Option.bind_some, bRT, bRW, bWW, bW, le0, ne10, if_true, if_false, not_true_eq_false, not_false_eq_true, uI_at, uA_1, uB_1, uG_1, uI_2, e_getI hC (show p < (s.2.2.1 40 2).length by omega), nI_1]
      by_cases q : (s.2.2.1 40 2).getD p 0 = c
      · rw [if_pos q, if_pos q]
      · rw [if_neg q, if_neg q]
        exact ih (p + 1) (by omega) (by omega)
theorem e_next {N h : Nat} (hN : 10000 ≤ N) {σ : SG} {s : AS} (hC : RC σ s) (c : Int32) {p e : Nat} (hp : p ≤ e) (he : e ≤ (s.2.2.1 40 2).length) : DX4_next N (h + 258) c (nI p) (nI e) (HH h σ) = some (nI (nxt (s.2.2.1 40 2) c (e - p) p)) := by
  have hlen := hC.inlen
  simp only [DX4_next, o_ck, o_0, o_1, o_2, o_3, o_4, o_5, o_6, t_ck, t_0, v_ck, v_0, q_ck, q_0, q_1, q_2, q_3, q_4, wr_ck, wr_0, wr_1, wr_2, rd_ck, rd_0, rd_1, Option.bind_some, bRT, bRW, bWW, bW, le0, ne10, if_true, if_false, not_true_eq_false, not_false_eq_true, uI_at, uA_1, uB_1, uG_1, uI_2, e_nx3 hC c he N p hp (by omega)]
def eol (I : List Int32) (p : Nat) : Nat := nxt I 10 (I.length - p) p
theorem e_endOf {N h : Nat} (hN : 10000 ≤ N) {σ : SG} {s : AS} (hC : RC σ s) {p : Nat} (hp : p ≤ (s.2.2.1 40 2).length) : DX4_endOf N (h + 258) (nI p) (HH h σ) = some (nI (eol (s.2.2.1 40 2) p)) := by
  simp only [DX4_endOf, o_ck, o_0, o_1, o_2, o_3, o_4, o_5, o_6, t_ck, t_0, v_ck, v_0, q_ck, q_0, q_1, q_2, q_3, q_4, wr_ck, wr_0, wr_1, wr_2, rd_ck, rd_0, rd_1, Option.bind_some, bRT, bRW, bWW, bW, le0, ne10, if_true, if_false, not_true_eq_false, not_false_eq_true, uI_at, uA_1, uB_1, uG_1, uI_2, e_cntL hC.inp, e_next hN hC 10 hp (Nat.le_refl _), eol]
theorem dg_stepI {x : Int32} (h : dgc x) (v : Nat) : nI v * 10 + x - 48 = nI (v * 10 + (x.toNatClampNeg - 48)) := by
  obtain ⟨d, hd, e1, e2⟩ := dgc_n h
  rw [e2, e1, show (10 : Int32) = nI 10 from rfl, nI_mul, nI_add, show v * 10 + (48 + d) = 48 + (v * 10 + d) by omega, nI_sub48]
  congr 1
  omega
theorem e_pl40 {N h : Nat} {σ : SG} {s : AS} (hC : RC σ s) {b : Nat} (hb : b ≤ (s.2.2.1 40 2).length) : ∀ (w j v : Nat), j ≤ b → b - j < w → DX4_plainNumber_40 N (HH h σ) w (h + 258) (nI b) (nI v) (nI j) = some (if run (seg (s.2.2.1 40 2) j b) = b - j then nI (rval v (seg (s.2.2.1 40 2) j b)) else -1) := by
  have hlen := hC.inlen
  intro w
  induction w with
  | zero => intro j v _ hw; omega
  | succ w ih =>
    intro j v hj hw
    rw [DX4_plainNumber_40]
    by_cases z : b ≤ j
    · obtain rfl : j = b := by omega
      rw [if_pos (nI_le z (by omega)), seg_nil, if_pos (by simp [run])]
      rfl
    · have hlt : j < b := by omega
      rw [if_neg (nI_ge hlt (by omega)), seg_cons hlt hb]
      simp only [o_ck, o_0, o_1, o_2, o_3, o_4, o_5, o_6, t_ck, t_0, v_ck, v_0, q_ck, q_0, q_1, q_2, q_3, q_4, wr_ck, wr_0, wr_1, wr_2, rd_ck, rd_0, rd_1, Option.bind_some, bRT, bRW, bWW, bW, le0, ne10, if_true, if_false, not_true_eq_false, not_false_eq_true, uI_at, uA_1, uB_1, uG_1, uI_2, e_getI hC (show j < (s.2.2.1 40 2).length by omega), e_isDigit, ite01]
      by_cases c : dgc ((s.2.2.1 40 2).getD j 0)
      · rw [if_neg (fun q => q c), dg_stepI c, nI_1, ih (j + 1) _ (by omega) (by omega), run_d c, rval_d c]
        by_cases e : run (seg (s.2.2.1 40 2) (j + 1) b) = b - (j + 1)
        · rw [if_pos e, if_pos (by omega)]
        · rw [if_neg e, if_neg (by omega)]
      · rw [if_pos c, run_n c, if_neg (by omega)]
theorem e_plain {N h : Nat} (hN : 10000 ≤ N) {σ : SG} {s : AS} (hC : RC σ s) {a b : Nat} (hab : a ≤ b) (hb : b ≤ (s.2.2.1 40 2).length) : DX4_plainNumber N (h + 258) (nI a) (nI b) (HH h σ) = some (match pn (seg (s.2.2.1 40 2) a b) with | none => -1 | some x => nI x) := by
  have hlen := hC.inlen
  have hsub : nI b - nI a = nI (b - a) := by
    have : nI b = nI (b - a) + nI a := by rw [nI_add]; congr 1; omega
    rw [this, Int32.add_sub_cancel]
  have hL := seg_len hab hb
  have e40 := e_pl40 (N := N) (h := h) hC hb N a 0 hab (by omega)
  rw [nI_0] at e40
  simp only [DX4_plainNumber, DX4_plainNumber_34, o_ck, o_0, o_1, o_2, o_3, o_4, o_5, o_6, t_ck, t_0, v_ck, v_0, q_ck, q_0, q_1, q_2, q_3, q_4, wr_ck, wr_0, wr_1, wr_2, rd_ck, rd_0, rd_1, Option.bind_some, bRT, bRW, bWW, bW, le0, ne10, if_true, if_false, not_true_eq_false, not_false_eq_true, uI_at, uA_1, uB_1, uG_1, uI_2, hsub, e40]
  unfold pn
  rw [hL]
  by_cases c1 : b - a < 1
  · rw [if_pos (show nI (b - a) < (1 : Int32) from nI_lt (b := 1) c1 (by omega)), if_neg (by omega)]
  · rw [if_neg (show ¬ nI (b - a) < (1 : Int32) from nI_nlt (b := 1) (by omega) (by omega))]
    by_cases c2 : 5 < b - a
    · rw [if_pos (show (5 : Int32) < nI (b - a) from nI_lt (a := 5) c2 (by omega)), if_neg (by omega)]
    · rw [if_neg (show ¬ (5 : Int32) < nI (b - a) from nI_nlt (a := 5) (by omega) (by omega))]
      by_cases c3 : b - a ≤ 1
      · rw [if_pos (show nI (b - a) ≤ (1 : Int32) from nI_le (b := 1) c3 (by omega))]
        by_cases c5 : run (seg (s.2.2.1 40 2) a b) = b - a
        · rw [if_pos c5, if_pos ⟨by omega, Or.inl (by omega), c5⟩]
        · rw [if_neg c5, if_neg (fun q => c5 q.2.2)]
      · rw [if_neg (show ¬ nI (b - a) ≤ (1 : Int32) from nI_ge (a := 1) (by omega) (by omega)), e_getI hC (show a < (s.2.2.1 40 2).length by omega)]
        have hg : (seg (s.2.2.1 40 2) a b).getD 0 0 = (s.2.2.1 40 2).getD a 0 := seg_get (by omega) hb
        simp only [Option.bind_some, bRT, bRW, bWW, bW, le0, ne10, if_true, if_false, not_true_eq_false, not_false_eq_true, uI_at, uA_1, uB_1, uG_1, uI_2]
        by_cases c4 : (s.2.2.1 40 2).getD a 0 = 48
        · rw [if_pos c4, if_neg (fun q => by
            rcases q.2.1 with y | y
            · omega
            · rw [hg] at y; exact y c4)]
        · rw [if_neg c4]
          by_cases c5 : run (seg (s.2.2.1 40 2) a b) = b - a
          · rw [if_pos c5, if_pos ⟨by omega, Or.inr (by rw [hg]; exact c4), c5⟩]
          · rw [if_neg c5, if_neg (fun q => c5 q.2.2)]
theorem e_isMaster {N h : Nat} {σ : SG} {s : AS} (hC : RC σ s) {i : Nat} (hi : i < s.2.2.2) : DX6_isMaster N (h + 1) (nI i) (HH h σ) = some (.inl (if mst s i then 1 else 0)) := by
  have hn := hC.n40
  have hi4 : i < 40 := by omega
  simp only [DX6_isMaster, o_ck, o_0, o_1, o_2, o_3, o_4, o_5, o_6, t_ck, t_0, v_ck, v_0, q_ck, q_0, q_1, q_2, q_3, q_4, wr_ck, wr_0, wr_1, wr_2, rd_ck, rd_0, rd_1, Option.bind_some, bRT, bRW, bWW, bW, le0, ne10, if_true, if_false, not_true_eq_false, not_false_eq_true, uI_at, uA_1, uB_1, uG_1, uI_2, e_tg hC hi, c_1 hC hi4, c_4 hC hi4]
  by_cases a : s.1 i 1 = 0
  · rw [if_pos a, if_neg (fun q => q.1 a)]
  · rw [if_neg a]
    by_cases b : s.1 i 4 = nI i
    · rw [if_pos b, if_pos ⟨a, b⟩]
    · rw [if_neg b, if_neg (fun q => b q.2)]
theorem pf_of {s : AS} (hI : Inv s) {r : Nat} (hr : r < s.2.2.2) {i : Nat} (hi : i < s.2.2.2) (h : pf s r = nI i) (h4 : s.1 i 4 = nI i) : ∃ p, p < r ∧ s.1 r 2 = nI p ∧ spl s p = spl s i := by
  have hn := hI.n40
  rw [pfv_pf] at h
  rcases hI.par hr with e | ⟨p, hp, e, _⟩
  · rw [e, pfv_m1] at h
    exact absurd h.symm (nI_nm1 (by omega))
  · rw [e, pfv_n s (show p < 2 ^ 31 by omega)] at h
    exact ⟨p, hp, e, spl_same hI (p + 1) p i (by omega) (by omega) hi (by rw [h, h4])⟩
/-- whatever is found has the name that was read -/
theorem e_mnA {N h : Nat} (hN : 10000 ≤ N) {σ : SG} {s : AS} (hC : RC σ s) (hI : Inv s) {p q : Nat} (hq : q ≤ (s.2.2.1 40 2).length) : ∀ (w t a : Nat) (v : Int32), 41 - t < w → t ≤ 40 → ((v = -1 ∧ a = p ∧ p ≤ q) ∨ ∃ i, i < s.2.2.2 ∧ v = nI i ∧ s.1 i 4 = nI i ∧ p < a ∧ a ≤ q + 1 ∧ (a ≤ q → (s.2.2.1 40 2).getD (a - 1) 0 = 46) ∧ seg (s.2.2.1 40 2) p (a - 1) = spl s i) → ∃ r, DX4_masterNamed_8 N (HH h σ) w (h + 258) (nI q) v (nI a) (nI t) = some (.inl r) ∧ (r = -1 ∨ ∃ m, m < s.2.2.2 ∧ mst s m ∧ r = nI m ∧ seg (s.2.2.1 40 2) p q = spl s m) := by
  have hlen := hC.inlen
  have hn := hI.n40
  intro w
  induction w with
  | zero => intro t a v hw; omega
  | succ w ih =>
    intro t a v hw ht hv
    have ha : a ≤ q + 1 := by
      rcases hv with ⟨_, e, _⟩ | ⟨i, _, _, _, _, e, _⟩ <;> omega
    have fin : ∃ r, DX4_masterNamed_82 N (HH h σ) (h + 258) (nI q) v (nI a) = some (.inl r) ∧ (r = -1 ∨ ∃ m, m < s.2.2.2 ∧ mst s m ∧ r = nI m ∧ seg (s.2.2.1 40 2) p q = spl s m) := by
      unfold DX4_masterNamed_82
      by_cases c : a ≤ q
      · exact ⟨-1, by rw [if_pos (nI_le c (by omega))], Or.inl rfl⟩
      · rw [if_neg (nI_ge (show q < a by omega) (by omega))]
        rcases hv with ⟨e1, e2, e3⟩ | ⟨i, i1, i2, i3, i4, i5, i6, i7⟩
        · exact absurd e3 (by omega)
        · obtain rfl : a = q + 1 := by omega
          rw [if_neg (by rw [i2]; exact nI_nm1 (by omega)), i2]
          simp only [o_ck, o_0, o_1, o_2, o_3, o_4, o_5, o_6, t_ck, t_0, v_ck, v_0, q_ck, q_0, q_1, q_2, q_3, q_4, wr_ck, wr_0, wr_1, wr_2, rd_ck, rd_0, rd_1, Option.bind_some, bRT, bRW, bWW, bW, le0, ne10, if_true, if_false, not_true_eq_false, not_false_eq_true, uI_at, uA_1, uB_1, uG_1, uI_2, e_isMaster hC i1, ite01]
          by_cases m : mst s i
          · exact ⟨nI i, by rw [if_neg (fun y => y m)], Or.inr ⟨i, i1, m, rfl, i7⟩⟩
          · exact ⟨-1, by rw [if_pos m], Or.inl rfl⟩
    rw [DX4_masterNamed_8]
    by_cases c40 : 40 ≤ t
    · rw [if_pos (show (40 : Int32) ≤ nI t from nI_le (a := 40) c40 (by omega))]
      exact fin
    · rw [if_neg (show ¬ (40 : Int32) ≤ nI t from nI_ge (b := 40) (by omega) (by omega))]
      by_cases cq : q < a
      · rw [if_pos (nI_lt cq (by omega))]
        exact fin
      · have haq : a ≤ q := by omega
        rw [if_neg (nI_nlt haq (by omega)), e_next hN hC 46 haq hq]
        obtain ⟨n1, n2⟩ := nxt_ge (s.2.2.1 40 2) 46 (q - a) a
        have n3 := nxt_at (s.2.2.1 40 2) 46 (q - a) a
        revert n1 n2 n3
        generalize nxt (s.2.2.1 40 2) 46 (q - a) a = x7
        intro n1 n2 n3
        simp only [Option.bind_some, bRT, bRW, bWW, bW, le0, ne10, if_true, if_false, not_true_eq_false, not_false_eq_true, uI_at, uA_1, uB_1, uG_1, uI_2, e_plain hN hC n1 (show x7 ≤ (s.2.2.1 40 2).length by omega)]
        cases ep : pn (seg (s.2.2.1 40 2) a x7) with
        | none =>
          simp only [if_true, DX4_masterNamed_62]
          exact ⟨-1, rfl, Or.inl rfl⟩
        | some x =>
          obtain ⟨p1, p2⟩ := pn_some ep
          simp only [nI_nm1 (show x < 2 ^ 31 by omega), if_false, o_ck, o_0, o_1, o_2, o_3, o_4, o_5, o_6, t_ck, t_0, v_ck, v_0, q_ck, q_0, q_1, q_2, q_3, q_4, wr_ck, wr_0, wr_1, wr_2, rd_ck, rd_0, rd_1, Option.bind_some, bRT, bRW, bWW, bW, le0, ne10, if_true, if_false, not_true_eq_false, not_false_eq_true, uI_at, uA_1, uB_1, uG_1, uI_2, e_fn hN hC hI, DX4_masterNamed_62]
          by_cases cl : lkp (nmP s v (nI x)) s.2.2.2 0 = -1
          · exact ⟨-1, by rw [if_pos cl], Or.inl rfl⟩
          · obtain ⟨r, r1, r2, r3, r4, r5⟩ := lkp_in hI cl
            rw [if_neg cl, r2, nI_1, nI_1]
            have t1 : 41 - (t + 1) < w := by clear hv; omega
            have t2 : t + 1 ≤ 40 := by clear hv; omega
            refine ih (t + 1) (x7 + 1) (nI r) t1 t2 (Or.inr ⟨r, r1, rfl, r3, ?_, by omega, fun _ => by rw [Nat.add_sub_cancel]; exact n3 (by omega), ?_⟩)
            · rcases hv with ⟨_, e, _⟩ | ⟨i, _, _, _, e, _⟩ <;> omega
            · rw [Nat.add_sub_cancel]
              rcases hv with ⟨e1, e2, e3⟩ | ⟨i, i1, i2, i3, i4, i5, i6, i7⟩
              · subst e2
                rw [p1]
                rw [e1, pfv_pf] at r5
                rcases hI.par r1 with y | ⟨z, hz, y, _⟩
                · exact (spl_root hI r1 (by omega) r4 y).symm
                · rw [y, pfv_n s (show z < 2 ^ 31 by omega)] at r5
                  exact absurd r5 (fst_nm1 hI (by omega))
              · rw [i2] at r5
                obtain ⟨z, z1, z2, z3⟩ := pf_of hI r1 i1 r5 i3
                rw [spl_kid hI r1 (by omega) r4 z2 z1, z3, ← i7, ← p1, seg_app (b := a - 1) (by omega) (by omega), seg_cons (a := a - 1) (by omega) (by omega), i6 haq, show a - 1 + 1 = a by omega]
/-- a name that is there is found -/
theorem e_mnB {N h : Nat} (hN : 10000 ≤ N) {σ : SG} {s : AS} (hC : RC σ s) (hI : Inv s) {m : Nat} (hm : m < s.2.2.2) (hms : mst s m) : ∀ (j w t a : Nat) (v : Int32) (R : List Int32) (q : Nat), 0 < j → j < w → t + j = dpt s m → (s.2.2.1 40 2).drop a = upL (nmf s m) j ++ R → q = a + (upL (nmf s m) j).length → q ≤ (s.2.2.1 40 2).length → (j = dpt s m → v = -1) → (j < dpt s m → v = s.1 (anc s m j) 4) → DX4_masterNamed_8 N (HH h σ) w (h + 258) (nI q) v (nI a) (nI t) = some (.inl (nI m)) := by
  have hlen := hC.inlen
  have hn := hI.n40
  obtain ⟨d1, d2, d3, d4, d5⟩ := hI.DP hm
  intro j
  induction j with
  | zero => intro w t a v R q h0; omega
  | succ j ih =>
    intro w t a v R q _ hw ht hd hq hql hv1 hv2
    obtain ⟨w, rfl⟩ : ∃ w', w = w' + 1 := ⟨w - 1, by omega⟩
    obtain ⟨hU, eU⟩ := nmf_le hI hm (show j < dpt s m by omega)
    obtain ⟨ha1, ha2⟩ := d1 j (by omega)
    have hlU : (upL (nmf s m) (j + 1)).length = (numL (nmf s m j) false).length + ((if 0 < j then [46] else [] : List Int32).length + (upL (nmf s m) j).length) := by
      rw [upL, List.length_append, List.length_append]
    have hd' : (s.2.2.1 40 2).drop a = numL (nmf s m j) false ++ (((if 0 < j then [46] else []) ++ upL (nmf s m) j) ++ R) := by
      rw [hd, upL, List.append_assoc]
    have haq : a ≤ q := by omega
    have hx7 : nxt (s.2.2.1 40 2) 46 (q - a) a = a + (numL (nmf s m j) false).length := by
      rw [nxt_pre _ _ _ _ hd' (fun y hy => dgc_ne (numL_dg hy) (by decide)) (by omega)]
      by_cases c : 0 < j
      · have e1 := drop_of hd'
        rw [if_pos c] at e1
        rw [if_pos c, List.length_singleton] at hlU
        obtain ⟨u, hu⟩ : ∃ u, q - a - (numL (nmf s m j) false).length = u + 1 := ⟨q - a - (numL (nmf s m j) false).length - 1, by omega⟩
        have hlt : a + (numL (nmf s m j) false).length < (s.2.2.1 40 2).length := by omega
        rw [drop_cons hlt] at e1
        simp only [List.cons_append, List.nil_append, List.append_assoc, List.cons.injEq] at e1
        rw [hu, nxt, if_pos e1.1]
      · have : j = 0 := by omega
        subst this
        rw [if_neg (by omega)] at hlU
        have : q - a - (numL (nmf s m 0) false).length = 0 := by
          simp only [upL, List.length_nil] at hlU
          rw [hq]
          simp only [upL]
          simp
        rw [this]
        rfl
    have hpn : pn (seg (s.2.2.1 40 2) a (a + (numL (nmf s m j) false).length)) = some (nmf s m j) := by
      rw [seg_of hd', pn_numL (by omega)]
    have hx7q : a + (numL (nmf s m j) false).length ≤ q := by omega
    have hlk : lkp (nmP s v (nI (nmf s m j))) s.2.2.2 0 = s.1 (anc s m j) 4 := by
      refine lkp_at hI ha1 ⟨eU, ?_⟩
      rw [pfv_pf]
      by_cases c : j + 1 = dpt s m
      · have : s.1 (anc s m j) 2 = -1 := by
          rw [show j = dpt s m - 1 by omega]
          exact d4
        rw [this, pfv_m1, hv1 c]
      · have := d2 j (by omega)
        rw [this.1, pfv_n s (show anc s m (j + 1) < 2 ^ 31 by have := (d1 (j + 1) (by omega)).1; omega), hv2 (by omega)]
    rw [DX4_masterNamed_8, if_neg (show ¬ (40 : Int32) ≤ nI t from nI_ge (b := 40) (by omega) (by omega)), if_neg (nI_nlt haq (by omega)), e_next hN hC 46 haq hql, hx7]
    simp only [Option.bind_some, bRT, bRW, bWW, bW, le0, ne10, if_true, if_false, not_true_eq_false, not_false_eq_true, uI_at, uA_1, uB_1, uG_1, uI_2, e_plain hN hC (show a ≤ a + (numL (nmf s m j) false).length by omega) (show a + (numL (nmf s m j) false).length ≤ (s.2.2.1 40 2).length by omega), hpn, nI_nm1 (show nmf s m j < 2 ^ 31 by omega), o_ck, o_0, o_1, o_2, o_3, o_4, o_5, o_6, t_ck, t_0, v_ck, v_0, q_ck, q_0, q_1, q_2, q_3, q_4, wr_ck, wr_0, wr_1, wr_2, rd_ck, rd_0, rd_1, e_fn hN hC hI, hlk, DX4_masterNamed_62, fst_nm1 hI ha1, nI_1]
    by_cases c : 0 < j
    · rw [if_pos c, List.length_singleton] at hlU
      refine ih w (t + 1) (a + (numL (nmf s m j) false).length + 1) (s.1 (anc s m j) 4) R q c (by omega) (by omega) ?_ (by omega) hql (fun q => by omega) (fun _ => rfl)
      have e1 := drop_of hd'
      rw [if_pos c] at e1
      have hlt : a + (numL (nmf s m j) false).length < (s.2.2.1 40 2).length := by omega
      rw [drop_cons hlt] at e1
      simp only [List.cons_append, List.nil_append, List.append_assoc, List.cons.injEq] at e1
      exact e1.2
    · have : j = 0 := by omega
      subst this
      rw [if_neg (by omega)] at hlU
      have hqe : q = a + (numL (nmf s m 0) false).length := by
        rw [hq]
        simp only [upL]
        simp
      obtain ⟨w, rfl⟩ : ∃ w', w = w' + 1 := ⟨w - 1, by omega⟩
      have e82 : DX4_masterNamed_82 N (HH h σ) (h + 258) (nI q) (s.1 (anc s m 0) 4) (nI (q + 1)) = some (.inl (nI m)) := by
        unfold DX4_masterNamed_82
        rw [if_neg (nI_ge (show q < q + 1 by omega) (by omega)), if_neg (fst_nm1 hI ha1), show s.1 (anc s m 0) 4 = nI m from hms.2]
        simp only [o_ck, o_0, o_1, o_2, o_3, o_4, o_5, o_6, t_ck, t_0, v_ck, v_0, q_ck, q_0, q_1, q_2, q_3, q_4, wr_ck, wr_0, wr_1, wr_2, rd_ck, rd_0, rd_1, Option.bind_some, bRT, bRW, bWW, bW, le0, ne10, if_true, if_false, not_true_eq_false, not_false_eq_true, uI_at, uA_1, uB_1, uG_1, uI_2, e_isMaster hC hm, if_pos hms]
      rw [← hqe, DX4_masterNamed_8]
      by_cases c40 : 40 ≤ t + 1
      · rw [if_pos (show (40 : Int32) ≤ nI (t + 1) from nI_le (a := 40) c40 (by omega))]
        exact e82
      · rw [if_neg (show ¬ (40 : Int32) ≤ nI (t + 1) from nI_ge (b := 40) (by omega) (by omega)), if_pos (nI_lt (show q < q + 1 by omega) (by omega))]
        exact e82
theorem e_named {N h : Nat} (hN : 10000 ≤ N) {σ : SG} {s : AS} (hC : RC σ s) (hI : Inv s) {p q : Nat} (hp : p ≤ q) (hq : q ≤ (s.2.2.1 40 2).length) : ∃ r, DX4_masterNamed N (h + 258) (nI p) (nI q) (HH h σ) = some (.inl r) ∧ ((r = -1 ∧ ∀ m, m < s.2.2.2 → mst s m → ¬ seg (s.2.2.1 40 2) p q = spl s m) ∨ ∃ m, m < s.2.2.2 ∧ mst s m ∧ r = nI m ∧ seg (s.2.2.1 40 2) p q = spl s m ∧ ∀ m', m' < s.2.2.2 → mst s m' → seg (s.2.2.1 40 2) p q = spl s m' → m' = m) := by
  have hlen := hC.inlen
  have hn := hI.n40
  have hB : ∀ m, m < s.2.2.2 → mst s m → seg (s.2.2.1 40 2) p q = spl s m → DX4_masterNamed_8 N (HH h σ) N (h + 258) (nI q) (-1) (nI p) 0 = some (.inl (nI m)) := fun m hm hms e => by
    obtain ⟨d1, d2, d3, d4, d5⟩ := hI.DP hm
    have hL := seg_len hp hq
    rw [e] at hL
    unfold spl at hL
    have := e_mnB (N := N) (h := h) hN hC hI hm hms (dpt s m) N 0 p (-1) ((s.2.2.1 40 2).drop q) q d3 (by omega) (by omega) (by rw [seg_drop hp, e]; rfl) (by omega) hq (fun _ => rfl) (fun y => by omega)
    rw [nI_0] at this
    exact this
  obtain ⟨r, r1, r2⟩ := e_mnA (N := N) (h := h) hN hC hI hq N 0 p (-1) (by omega) (by omega) (Or.inl ⟨rfl, rfl, hp⟩)
  rw [nI_0] at r1
  refine ⟨r, by simp only [DX4_masterNamed, o_ck, o_0, o_1, o_2, o_3, o_4, o_5, o_6, t_ck, t_0, v_ck, v_0, q_ck, q_0, q_1, q_2, q_3, q_4, wr_ck, wr_0, wr_1, wr_2, rd_ck, rd_0, rd_1, Option.bind_some, bRT, bRW, bWW, bW, le0, ne10, if_true, if_false, not_true_eq_false, not_false_eq_true, uI_at, uA_1, uB_1, uG_1, uI_2, r1], ?_⟩
  rcases r2 with e | ⟨m, hm, hms, e, es⟩
  · refine Or.inl ⟨e, fun m hm hms es => ?_⟩
    have := hB m hm hms es
    rw [r1, e, Option.some.injEq, Sum.inl.injEq] at this
    exact absurd this.symm (nI_nm1 (by omega))
  · refine Or.inr ⟨m, hm, hms, e, es, fun m' hm' hms' es' => ?_⟩
    have := hB m' hm' hms' es'
    rw [r1, e, Option.some.injEq, Sum.inl.injEq, nI_eq (by omega) (by omega)] at this
    exact this.symm
