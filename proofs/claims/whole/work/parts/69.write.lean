/-! write, in the class -/
theorem sQ_sQ (s : AS) (i j : Nat) (l l' : List Int32) : sQ (sQ s i j l) i j l' = sQ s i j l' := by
  unfold sQ
  congr 2
  congr 1
  funext i' j'
  by_cases h : i' = i ∧ j' = j <;> simp [h]
theorem sQ_at (s : AS) (i j : Nat) (l : List Int32) : (sQ s i j l).2.2.1 i j = l := by simp [sQ]
theorem sQ_o {s : AS} {i j q : Nat} {l : List Int32} (h : q ≠ i) : (sQ s i j l).2.2.1 q = s.2.2.1 q := by funext w; simp [sQ, h]
theorem RC.dapp {σ : SG} {s : AS} {l : List Int32} (h : RC σ (sQ s 40 1 l)) (xs : List Int32) (hl : l.length + xs.length ≤ 2400) : RC (rapp σ 254 xs) (sQ s 40 1 (l ++ xs)) := by
  have hd := h.dat
  rw [← sQ_sQ s 40 1 l]
  refine h.row (Or.inr (Or.inl ⟨rfl, rfl⟩)) (rapp_but 254 xs σ) (rapp_ok xs hd.1) ?_
  rw [rapp_list xs (by rw [hd.rc, sQ_at]; show _ ≤ 2400; exact hl), hd.2, sQ_at]
theorem Inv.q40 {s : AS} (h : Inv s) (j : Nat) (l : List Int32) : Inv (sQ s 40 j l) := h.lists rfl rfl rfl (fun q hq => sQ_o (by omega))
/-- the numbers of the names, from the field upwards -/
theorem e_up11 {N h : Nat} {s : AS} (hI : Inv s) {m : Nat} (hm : m < s.2.2.2) : ∀ (w k : Nat) (σ : SG) (v : Int32), dpt s m - k < w → k ≤ dpt s m → RC σ s → (k < dpt s m → v = nI (anc s m k)) → (k = dpt s m → v = -1) → rlist σ 256 = (List.range k).map (fun j => s.1 (anc s m j) 3) → ∃ τ, DX8_addFullName_11 N w (h + 253) v (nI k) (HH h σ) = DX8_addFullName_59 N (h + 253) (HH h τ) ∧ RC τ s ∧ sbut [256, 257] σ τ ∧ rlist τ 256 = (List.range (dpt s m)).map (fun j => s.1 (anc s m j) 3) := by
  have hn := hI.n40
  obtain ⟨d1, d2, d3, d4, d5⟩ := hI.DP hm
  intro w
  induction w with
  | zero => intro k σ v hw; omega
  | succ w ih =>
    intro k σ v hw hk hC hv1 hv2 hl
    rw [DX8_addFullName_11]
    by_cases z : k = dpt s m
    · refine ⟨σ, ?_, hC, sbut.rf, by rw [← z]; exact hl⟩
      rw [hv2 z, if_pos rfl]
      split <;> rfl
    · have hlt : k < dpt s m := by omega
      have ha := (d1 k hlt).1
      have ha4 : anc s m k < 40 := by omega
      have hlen : (rlist σ 256).length = k := by rw [hl]; simp
      have hcap : rc σ 256 < ln 257 := by
        rw [← rlist_len, hlen]
        show k < 40
        omega
      have hb := rpush_but σ 256 (s.1 (anc s m k) 3)
      have hC2 : RC (rpush σ 256 (s.1 (anc s m k) 3)) s := hC.work (hb.wk (by simp)) (hC.view.ag (hb.ag (by simp))) (hC.res.ag (hb.ag (by simp))) (rpush_ok _ hC.upw)
      have hl2 : rlist (rpush σ 256 (s.1 (anc s m k) 3)) 256 = (List.range (k + 1)).map (fun j => s.1 (anc s m j) 3) := by
        rw [rpush_list hcap, hl, List.range_succ, List.map_append]
        rfl
      obtain ⟨τ, t1, t2, t3, t4⟩ := ih (k + 1) (rpush σ 256 (s.1 (anc s m k) 3)) (s.1 (anc s m k) 2) (by omega) (by omega) hC2 (fun q => (d2 k q).1) (fun q => by rw [show k = dpt s m - 1 by omega]; exact d4) hl2
      refine ⟨τ, ?_, t2, hb.tr t3, t4⟩
      rw [hv1 hlt, if_neg (show ¬ (40 : Int32) ≤ nI k from nI_ge (b := 40) (by omega) (by omega)), if_neg (nI_nm1 (by omega))]
      simp only [o_ck, o_0, o_1, o_2, o_3, o_4, o_5, o_6, t_ck, t_0, v_ck, v_0, q_ck, q_0, q_1, q_2, q_3, q_4, wr_ck, wr_0, wr_1, wr_2, rd_ck, rd_0, rd_1, Option.bind_some, bRT, bRW, bWW, bW, le0, ne10, if_true, if_false, not_true_eq_false, not_false_eq_true, uI_at, uA_1, uB_1, uG_1, uI_2, e_tg hC ha, c_3 hC ha4, e_add hC.upw, e_tg hC2 ha, c_2 hC2 ha4, nI_1]
      exact t1
theorem e_fn69 {N h : Nat} (hN : 10000 ≤ N) {U : Nat → Nat} {d : Nat} (hd : d ≤ 40) (hU : ∀ k, k < d → U k ≤ 999) {l : List Int32} (hl : l = (List.range d).map (fun j => nI (U j))) : ∀ (j w : Nat) (σ : SG), j ≤ d → j < w → rok σ 254 → rok σ 256 → rlist σ 256 = l → DX8_addFullName_69 N w (h + 253) (nI j - 1) (HH h σ) = some (.inl (), HH h (rapp σ 254 (upL U j))) := by
  intro j
  induction j with
  | zero =>
    intro w σ _ hw _ _ _
    obtain ⟨w', rfl⟩ : ∃ w', w = w' + 1 := ⟨w - 1, by omega⟩
    rw [DX8_addFullName_69, if_pos (by rw [nI_0]; decide)]
    rfl
  | succ j ih =>
    intro w σ hj hw h4 h6 hr
    obtain ⟨w', rfl⟩ : ∃ w', w = w' + 1 := ⟨w - 1, by omega⟩
    have hg : DX5_get N (h + 256) (nI j) (HH h σ) = some (nI (U j)) := by
      rw [e_get_l h6 (by rw [hr, hl]; simp; omega), hr, hl, List.getD_eq_getElem?_getD, List.getElem?_map, List.getElem?_range (by omega)]
      rfl
    have hu := hU j (by omega)
    have b1 := rapp_but 254 (numL (U j) false) σ
    have o1 := rapp_ok (numL (U j) false) h4
    have hnum := e_addNumber (N := N) (h := h) (m := U j) (cm := 0) hN (by omega) h4
    rw [show (!decide ((0 : Int32) = 0)) = false from rfl] at hnum
    rw [DX8_addFullName_69, nI_b1, if_neg (nI_pos (by omega))]
    simp only [o_ck, o_0, o_1, o_2, o_3, o_4, o_5, o_6, t_ck, t_0, v_ck, v_0, q_ck, q_0, q_1, q_2, q_3, q_4, wr_ck, wr_0, wr_1, wr_2, rd_ck, rd_0, rd_1, Option.bind_some, bRT, bRW, bWW, bW, le0, ne10, if_true, if_false, not_true_eq_false, not_false_eq_true, uI_at, uA_1, uB_1, uG_1, uI_2, hg, nI_l (show U j < 2 ^ 31 by omega), hnum, DX8_addFullName_104, nI_m1]
    unfold upL
    rw [rapp_app, rapp_app]
    by_cases z : 0 < j
    · rw [if_neg (nI_nle (by omega) (by omega)), if_pos z, e_add o1]
      simp only [Option.bind_some, bRT, bRW, bWW, bW, le0, ne10, if_true, if_false, not_true_eq_false, not_false_eq_true, uI_at, uA_1, uB_1, uG_1, uI_2]
      have b2 := rpush_but (rapp σ 254 (numL (U j) false)) 254 46
      have o2 := rpush_ok 46 o1
      rw [ih w' _ (by omega) (by omega) o2 ((h6.ag (b1.ag (by simp))).ag (b2.ag (by simp))) (by rw [rlist_ag (b2.ag (by simp)) (b2.ag (by simp)), rlist_ag (b1.ag (by simp)) (b1.ag (by simp)), hr])]
      rfl
    · have : j = 0 := by omega
      subst this
      rw [if_pos (by rw [nI_0]; decide), if_neg z]
      rw [ih w' _ (by omega) (by omega) o1 (h6.ag (b1.ag (by simp))) (by rw [rlist_ag (b1.ag (by simp)) (b1.ag (by simp)), hr])]
      rfl
theorem e_fullName {N h : Nat} (hN : 10000 ≤ N) {σ : SG} {s : AS} {l : List Int32} (hC : RC σ (sQ s 40 1 l)) (hI : Inv s) {m : Nat} (hm : m < s.2.2.2) (hcap : l.length + (upL (nmf s m) (dpt s m)).length ≤ 2400) : ∃ τ, DX8_addFullName N (h + 253) (nI m) (HH h σ) = some (.inl (), HH h τ) ∧ RC τ (sQ s 40 1 (l ++ upL (nmf s m) (dpt s m))) ∧ sbut [254, 255, 256, 257] σ τ := by
  have hn := hI.n40
  have hI' := hI.q40 1 l
  obtain ⟨d1, d2, d3, d4, d5⟩ := hI.DP hm
  have hb0 : sbut [256] σ (uI σ 256 1 0) := sbut.uI (by simp)
  have hC0 : RC (uI σ 256 1 0) (sQ s 40 1 l) := hC.work (hb0.wk (by simp)) (hC.view.ag (hb0.ag (by simp))) (hC.res.ag (hb0.ag (by simp))) (rclear_ok hC.upw)
  have ed : dpt (sQ s 40 1 l) m = dpt s m := dpt_q rfl m
  obtain ⟨τ, t1, t2, t3, t4⟩ := e_up11 (N := N) (h := h) hI' (m := m) hm N 0 (uI σ 256 1 0) (nI m) (by rw [ed]; omega) (by omega) hC0 (fun _ => rfl) (fun q => by rw [ed] at q; omega) (rclear_list _ _)
  have t4' : rlist τ 256 = (List.range (dpt s m)).map (fun j => nI (nmf s m j)) := by
    rw [t4, ed]
    apply List.map_congr_left
    intro j hj
    rw [anc_q (s := s) (t := sQ s 40 1 l) rfl]
    exact (nmf_le hI hm (List.mem_range.mp hj)).2
  have hcnt : τ.1 256 1 = nI (dpt s m) := by
    rw [t2.upw.2.2.1, ← rlist_len, t4']
    simp
  refine ⟨rapp τ 254 (upL (nmf s m) (dpt s m)), ?_, t2.dapp _ hcap, ((hb0.wk (by simp)).tr (t3.wk (by simp))).tr ((rapp_but 254 _ τ).wk (by simp))⟩
  simp only [DX8_addFullName, o_ck, o_0, o_1, o_2, o_3, o_4, o_5, o_6, t_ck, t_0, v_ck, v_0, q_ck, q_0, q_1, q_2, q_3, q_4, wr_ck, wr_0, wr_1, wr_2, rd_ck, rd_0, rd_1, Option.bind_some, bRT, bRW, bWW, bW, le0, ne10, if_true, if_false, not_true_eq_false, not_false_eq_true, uI_at, uA_1, uB_1, uG_1, uI_2, e_clear (r := 256) rfl]
  rw [nI_0] at t1
  rw [t1]
  simp only [DX8_addFullName_59, o_ck, o_0, o_1, o_2, o_3, o_4, o_5, o_6, t_ck, t_0, v_ck, v_0, q_ck, q_0, q_1, q_2, q_3, q_4, wr_ck, wr_0, wr_1, wr_2, rd_ck, rd_0, rd_1, Option.bind_some, bRT, bRW, bWW, bW, le0, ne10, if_true, if_false, not_true_eq_false, not_false_eq_true, uI_at, uA_1, uB_1, uG_1, uI_2, e_count (r := 256) rfl, hcnt]
  exact e_fn69 hN (by omega) (fun k hk => (nmf_le hI hm hk).1) rfl (dpt s m) N τ (Nat.le_refl _) (by omega) t2.dat.1 t2.upw t4'
theorem e_content {N h : Nat} (hN : 10000 ≤ N) {σ : SG} {s : AS} (hC : RC σ s) (hI : Inv s) {m : Nat} (hm : m < s.2.2.2) (hk0 : ¬ s.1 m 1 = 0) : DX8_addContent N (h + 253) (h + (3 + 6 * m)) (HH h σ) = some ((), HH h (rapp σ 254 (cnt s m))) := by
  have hn := hI.n40
  have hm4 : m < 40 := by omega
  have hl := hC.len hm4
  have hs := hC.sg hm4
  have hall := e_addAll (N := N) (h := h) hN (r := 254) (r' := 3 + 6 * m + 2) (by omega) (q := 0) (t := (s.2.2.1 m 0).length) (by omega) hC.dat.1 hs.1 (by rw [hs.2]; exact Nat.le_refl _)
  rw [hs.2, List.drop_zero, Nat.sub_zero, List.take_length, nI_0] at hall
  simp only [DX8_addContent, o_ck, o_0, o_1, o_2, o_3, o_4, o_5, o_6, t_ck, t_0, v_ck, v_0, q_ck, q_0, q_1, q_2, q_3, q_4, wr_ck, wr_0, wr_1, wr_2, rd_ck, rd_0, rd_1, Option.bind_some, bRT, bRW, bWW, bW, le0, ne10, if_true, if_false, not_true_eq_false, not_false_eq_true, uI_at, uA_1, uB_1, uG_1, uI_2, e_hasSigns hC hm4, ite01, c_1 hC hm4, c_10 hC hm4, g8 hm4, g9 hm4, e_cntL hs, hall, e_hasL (hC.cd hm4)]
  unfold cnt
  by_cases a : s.1 m 1 = 1 ∨ s.1 m 1 = 5
  · rw [if_neg (fun q => q a), if_pos a]
  · rw [if_pos a, if_neg a]
    by_cases b : s.1 m 1 = 2
    · rw [if_pos b, if_pos b, e_add hC.dat.1]
      simp only [Option.bind_some, bRT, bRW, bWW, bW, le0, ne10, if_true, if_false, not_true_eq_false, not_false_eq_true, uI_at, uA_1, uB_1, uG_1, uI_2]
      rfl
    · rw [if_neg b, if_neg b]
      have hk : s.1 m 1 = 3 ∨ s.1 m 1 = 4 := by
        rcases hI.k6 hm with k | k | k | k | k | k
        · exact absurd k hk0
        · exact absurd (Or.inl k) a
        · exact absurd k b
        · exact Or.inl k
        · exact Or.inr k
        · exact absurd (Or.inr k) a
      rcases (hI.V hm).2.2.2.2.2.1 hk with z | ⟨c, hc, z⟩
      · rw [z, if_pos (fun q => q.1 (by decide)), if_pos rfl]
        rfl
      · obtain ⟨d, hd, e2⟩ := (hI.V hm).2.2.2.2.2.2 _ (getD_mem hc)
        rw [z, if_neg (fun q => q ⟨nI_pos (by omega), nI_ge hc (by omega)⟩), if_neg (nI_nm1 (by omega)), nI_clamp (by omega), e_getL (hC.cd hm4) hc]
        simp only [Option.bind_some, bRT, bRW, bWW, bW, le0, ne10, if_true, if_false, not_true_eq_false, not_false_eq_true, uI_at, uA_1, uB_1, uG_1, uI_2]
        rw [e2, nI_l (by omega), nI_clamp (by omega), e_addNumber hN (by omega) hC.dat.1]
        rfl
theorem cnt_q {s : AS} {l : List Int32} {m : Nat} (hm : m < 40) : cnt (sQ s 40 1 l) m = cnt s m := by
  unfold cnt
  rw [sQ_o (by omega)]
  rfl
theorem e_wr9 {N h : Nat} (hN : 10000 ≤ N) {s : AS} (hI : Inv s) (hlen : ∀ q, q < 40 → (s.2.2.1 q 0).length ≤ 30 ∧ (s.2.2.1 q 1).length ≤ 12) : ∀ (w j : Nat) (σ : SG), s.2.2.2 - j < w → j ≤ s.2.2.2 → RC σ (sQ s 40 1 (datL s j)) → ∃ τ, DX8_writeAll_9 N w (h + 253) (nI j) (HH h σ) = some (.inl (nI (datL s s.2.2.2).length), HH h τ) ∧ RC τ (sQ s 40 1 (datL s s.2.2.2)) ∧ fc σ τ := by
  have hn := hI.n40
  have htot := datL_le hI hlen
  intro w
  induction w with
  | zero => intro j σ hw; omega
  | succ w ih =>
    intro j σ hw hj hC
    have hI' := hI.q40 1 (datL s j)
    have hcn : DX6_count N (h + 1) (HH h σ) = some (nI s.2.2.2) := e_tc (s := sQ s 40 1 (datL s j)) hC
    rw [DX8_writeAll_9]
    by_cases z : s.2.2.2 ≤ j
    · have e : j = s.2.2.2 := by omega
      refine ⟨σ, ?_, by rw [← e]; exact hC, fc.rf⟩
      have := e_cntL (N := N) (h := h) hC.dat
      rw [sQ_at] at this
      simp only [o_ck, o_0, o_1, o_2, o_3, o_4, o_5, o_6, t_ck, t_0, v_ck, v_0, q_ck, q_0, q_1, q_2, q_3, q_4, wr_ck, wr_0, wr_1, wr_2, rd_ck, rd_0, rd_1, Option.bind_some, bRT, bRW, bWW, bW, le0, ne10, if_true, if_false, not_true_eq_false, not_false_eq_true, uI_at, uA_1, uB_1, uG_1, uI_2, hcn]
      rw [if_pos (nI_le z (by omega)), this, e]
      rfl
    · have hlt : j < s.2.2.2 := by omega
      have hj4 : j < 40 := by omega
      have hmono := datL_mono s (show j + 1 ≤ s.2.2.2 by omega)
      have hmst : DX6_isMaster N (h + 1) (nI j) (HH h σ) = some (.inl (if mst s j then 1 else 0)) := by
        have k := c_1 (h := h) hC hj4
        have f := c_4 (h := h) hC hj4
        simp only [DX6_isMaster, t_ck, Option.bind_some, bRT, bRW, bWW, bW, le0, ne10, if_true, if_false, not_true_eq_false, not_false_eq_true, uI_at, uA_1, uB_1, uG_1, uI_2, e_tg hC (show j < (sQ s 40 1 (datL s j)).2.2.2 from hlt), k, f]
        by_cases a : s.1 j 1 = 0
        · have : (sQ s 40 1 (datL s j)).1 j 1 = 0 := a
          simp [this, mst, a]
        · have a' : ¬ (sQ s 40 1 (datL s j)).1 j 1 = 0 := a
          by_cases b : s.1 j 4 = nI j
          · have b' : (sQ s 40 1 (datL s j)).1 j 4 = nI j := b
            simp [a', b', mst, a, b]
          · have b' : ¬ (sQ s 40 1 (datL s j)).1 j 4 = nI j := b
            simp [a', b', mst, a, b]
      have hdat : datL s (j + 1) = datL s j ++ (if mst s j then line s j else []) := rfl
      by_cases c : mst s j
      · rw [if_pos c] at hdat
        rw [hdat] at hmono
        unfold line at hmono
        simp only [List.length_append, List.length_cons, List.length_nil] at hmono
        obtain ⟨τ1, a1, a2, a3⟩ := e_fullName (N := N) (h := h) hN hC hI hlt (by omega)
        have a4 := a2.dapp [61] (by simp; omega)
        have hI2 := hI.q40 1 (datL s j ++ upL (nmf s j) (dpt s j) ++ [61])
        have a5 := e_content (N := N) (h := h) hN a4 hI2 (m := j) hlt c.1
        rw [cnt_q hj4] at a5
        have a6 := a4.dapp (cnt s j) (by simp; omega)
        have a7 := a6.dapp [10] (by simp; omega)
        have hl7 : datL s j ++ upL (nmf s j) (dpt s j) ++ [61] ++ cnt s j ++ [10] = datL s (j + 1) := by
          rw [hdat]
          unfold line
          simp [List.append_assoc]
        rw [hl7] at a7
        obtain ⟨τ, t1, t2, t3⟩ := ih (j + 1) _ (by omega) (by omega) a7
        refine ⟨τ, ?_, t2, ((((fc.but a3 (by simp)).tr (fc.but (rapp_but 254 [61] _) (by simp))).tr (fc.but (rapp_but 254 (cnt s j) _) (by simp))).tr (fc.but (rapp_but 254 [10] _) (by simp))).tr t3⟩
        simp only [o_ck, o_0, o_1, o_2, o_3, o_4, o_5, o_6, t_ck, t_0, v_ck, v_0, q_ck, q_0, q_1, q_2, q_3, q_4, wr_ck, wr_0, wr_1, wr_2, rd_ck, rd_0, rd_1, Option.bind_some, bRT, bRW, bWW, bW, le0, ne10, if_true, if_false, not_true_eq_false, not_false_eq_true, uI_at, uA_1, uB_1, uG_1, uI_2, hcn]
        rw [if_neg (nI_ge hlt (by omega)), hmst, if_pos c]
        have b1 : DX5_add N (h + 254) 61 (HH h τ1) = some (if rc τ1 254 < ln (254 + 1) then 1 else 0, HH h (rapp τ1 254 [61])) := e_add a2.dat.1 61
        have b2 : DX5_add N (h + 254) 10 (HH h (rapp (rapp τ1 254 [61]) 254 (cnt s j))) = some (if rc (rapp (rapp τ1 254 [61]) 254 (cnt s j)) 254 < ln (254 + 1) then 1 else 0, HH h (rapp (rapp (rapp τ1 254 [61]) 254 (cnt s j)) 254 [10])) := e_add a6.dat.1 10
        have b3 : DX6_get N (h + 1) (nI j) (HH h (rapp τ1 254 [61])) = some (.inl (h + (3 + 6 * j))) := e_tg a4 hlt
        simp only [Option.bind_some, bRT, bRW, bWW, bW, le0, ne10, if_true, if_false, not_true_eq_false, not_false_eq_true, uI_at, uA_1, uB_1, uG_1, uI_2, a1, o_ck, o_0, o_1, o_2, o_3, o_4, o_5, o_6, t_ck, t_0, v_ck, v_0, q_ck, q_0, q_1, q_2, q_3, q_4, wr_ck, wr_0, wr_1, wr_2, rd_ck, rd_0, rd_1, b1, b3, a5, b2, DX8_writeAll_68, nI_1]
        exact t1
      · rw [if_neg c, List.append_nil] at hdat
        obtain ⟨τ, t1, t2, t3⟩ := ih (j + 1) σ (by omega) (by omega) (by rw [hdat]; exact hC)
        refine ⟨τ, ?_, t2, t3⟩
        simp only [o_ck, o_0, o_1, o_2, o_3, o_4, o_5, o_6, t_ck, t_0, v_ck, v_0, q_ck, q_0, q_1, q_2, q_3, q_4, wr_ck, wr_0, wr_1, wr_2, rd_ck, rd_0, rd_1, Option.bind_some, bRT, bRW, bWW, bW, le0, ne10, if_true, if_false, not_true_eq_false, not_false_eq_true, uI_at, uA_1, uB_1, uG_1, uI_2, hcn]
        rw [if_neg (nI_ge hlt (by omega)), hmst, if_neg c]
        simp only [Option.bind_some, bRT, bRW, bWW, bW, le0, ne10, if_true, if_false, not_true_eq_false, not_false_eq_true, uI_at, uA_1, uB_1, uG_1, uI_2, DX8_writeAll_68, nI_1]
        exact t1
theorem e_write {N h : Nat} (hN : 10000 ≤ N) {σ : SG} {s : AS} (hC : RC σ s) (hI : Inv s) : ∃ τ, DX9_write N h (HH h σ) = some (.inl (nI (datL s s.2.2.2).length), HH h τ) ∧ RC τ (sQ s 40 1 (datL s s.2.2.2)) ∧ fc σ τ := by
  have hlen : ∀ q, q < 40 → (s.2.2.1 q 0).length ≤ 30 ∧ (s.2.2.1 q 1).length ≤ 12 := fun q hq => hC.len hq
  have hC0 : RC (uI σ 254 1 0) (sQ s 40 1 []) := hC.row (Or.inr (Or.inl ⟨rfl, rfl⟩)) (sbut.uI (by simp)) (rclear_ok hC.dat.1) (rclear_list _ _)
  have hn := hI.n40
  obtain ⟨τ, t1, t2, t3⟩ := e_wr9 (N := N) (h := h) hN hI hlen N 0 (uI σ 254 1 0) (by omega) (by omega) hC0
  refine ⟨τ, ?_, t2, (fc.I (by omega)).tr t3⟩
  rw [nI_0] at t1
  simp only [DX9_write, DX8_writeAll, o_ck, o_0, o_1, o_2, o_3, o_4, o_5, o_6, t_ck, t_0, v_ck, v_0, q_ck, q_0, q_1, q_2, q_3, q_4, wr_ck, wr_0, wr_1, wr_2, rd_ck, rd_0, rd_1, Option.bind_some, bRT, bRW, bWW, bW, le0, ne10, if_true, if_false, not_true_eq_false, not_false_eq_true, uI_at, uA_1, uB_1, uG_1, uI_2, e_clear (r := 254) rfl, t1]
