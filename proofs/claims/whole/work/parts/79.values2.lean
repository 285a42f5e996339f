/-! READING: values and lines, in the class -/
def okT (s : AS) (m : Nat) (X : List Int32) : Prop := ((s.1 m 1 = 1 ∨ s.1 m 1 = 5) ∧ X.length ≤ (rm s m).toNatClampNeg ∧ ∀ c ∈ X, sgn s m c) ∨ (s.1 m 1 = 2 ∧ (X = [48] ∨ X = [49])) ∨ ((s.1 m 1 = 3 ∨ s.1 m 1 = 4) ∧ (X = [] ∨ ∃ x, pn X = some x ∧ nI x ∈ s.2.2.1 m 1))
def okV (s : AS) (m : Nat) (X : List Int32) : Prop := okT s m X ∧ (s.1 m 1 = 3 ∨ s.1 m 1 = 4 → X = [] → mbn s m)
def tkV (s : AS) (m : Nat) (X : List Int32) : AS := if s.1 m 1 = 1 ∨ s.1 m 1 = 5 then sQ s m 0 X else if s.1 m 1 = 2 then sA s m 10 (X.getD 0 0 - 48) else sA s m 10 (match pn X with | none => -1 | some x => fnd (nI x) (s.2.2.1 m 1) 0)
theorem nI_subI {a b : Nat} (h : a ≤ b) : nI b - nI a = nI (b - a) := by
  have : nI b = nI (b - a) + nI a := by rw [nI_add]; congr 1; omega
  rw [this, Int32.add_sub_cancel]
theorem e_cts15 {N h : Nat} {σ : SG} {s : AS} (hC : RC σ s) {m : Nat} (hm4 : m < 40) {e : Nat} (he : e ≤ (s.2.2.1 40 2).length) : ∀ (w j : Nat), j ≤ e → e - j < w → ∃ b : Int32, DX4_couldTakeSigns_15 N (HH h σ) w (h + 258) (h + (3 + 6 * m)) (nI e) (nI j) = some b ∧ (b = 0 ∨ b = 1) ∧ (b = 1 ↔ ∀ c ∈ seg (s.2.2.1 40 2) j e, sgn s m c) := by
  have hlen := hC.inlen
  intro w
  induction w with
  | zero => intro j _ hw; omega
  | succ w ih =>
    intro j hj hw
    rw [DX4_couldTakeSigns_15]
    by_cases z : e ≤ j
    · obtain rfl : j = e := by omega
      refine ⟨1, by rw [if_pos (nI_le z (by omega))], Or.inr rfl, ⟨fun _ c hc => ?_, fun _ => rfl⟩⟩
      rw [seg_nil] at hc
      exact absurd hc (by simp)
    · have hlt : j < e := by omega
      rw [if_neg (nI_ge hlt (by omega)), seg_cons hlt he]
      simp only [o_ck, o_0, o_1, o_2, o_3, o_4, o_5, o_6, t_ck, t_0, v_ck, v_0, q_ck, q_0, q_1, q_2, q_3, q_4, wr_ck, wr_0, wr_1, wr_2, rd_ck, rd_0, rd_1, Option.bind_some, bRT, bRW, bWW, bW, le0, ne10, if_true, if_false, not_true_eq_false, not_false_eq_true, uI_at, uA_1, uB_1, uG_1, uI_2, e_getI hC (show j < (s.2.2.1 40 2).length by omega), e_isSign hC hm4, ite01, nI_1]
      by_cases c : sgn s m ((s.2.2.1 40 2).getD j 0)
      · rw [if_neg (fun q => q c)]
        obtain ⟨b, b1, b2, b3⟩ := ih (j + 1) (by omega) (by omega)
        refine ⟨b, b1, b2, b3.trans ⟨fun q x hx => ?_, fun q x hx => q x (by simp [hx])⟩⟩
        rcases List.mem_cons.mp hx with y | y
        · rw [y]; exact c
        · exact q x y
      · rw [if_pos c]
        exact ⟨0, rfl, Or.inl rfl, ⟨fun q => absurd q (by decide), fun q => absurd (q _ (by simp)) c⟩⟩
theorem x48 {x : Int32} : x - 48 = 0 ↔ x = 48 := by
  constructor
  · intro e
    have : x - 48 + 48 = 0 + 48 := by rw [e]
    rw [Int32.sub_add_cancel] at this
    exact this
  · intro e
    rw [e]
    rfl
theorem x49 {x : Int32} : x - 48 = 1 ↔ x = 49 := by
  constructor
  · intro e
    have : x - 48 + 48 = 1 + 48 := by rw [e]
    rw [Int32.sub_add_cancel] at this
    exact this
  · intro e
    rw [e]
    rfl
theorem seg1 {I : List Int32} {a e : Nat} (h : e - a = 1) (he : e ≤ I.length) : seg I a e = [I.getD a 0] := by
  rw [seg_cons (by omega) he, show e = a + 1 by omega, seg_nil]
theorem e_ctk {N h : Nat} (hN : 10000 ≤ N) {σ : SG} {s : AS} (hC : RC σ s) (hI : Inv s) {m : Nat} (hm : m < s.2.2.2) (hk0 : ¬ s.1 m 1 = 0) {a e : Nat} (ha : a ≤ e) (he : e ≤ (s.2.2.1 40 2).length) : ∃ b : Int32, DX4_couldTake N (h + 258) (h + (3 + 6 * m)) (nI a) (nI e) (HH h σ) = some b ∧ (b = 0 ∨ b = 1) ∧ (b = 1 ↔ okV s m (seg (s.2.2.1 40 2) a e)) := by
  have hn := hI.n40
  have hm4 : m < 40 := by omega
  have hlen := hC.inlen
  have hL := seg_len ha he
  simp only [DX4_couldTake, DX4_couldTakeSigns, o_ck, o_0, o_1, o_2, o_3, o_4, o_5, o_6, t_ck, t_0, v_ck, v_0, q_ck, q_0, q_1, q_2, q_3, q_4, wr_ck, wr_0, wr_1, wr_2, rd_ck, rd_0, rd_1, Option.bind_some, bRT, bRW, bWW, bW, le0, ne10, if_true, if_false, not_true_eq_false, not_false_eq_true, uI_at, uA_1, uB_1, uG_1, uI_2, k1 hm4, g7 hm4, g8 hm4, g9 hm4, c_0 hC hm4, c_1 hC hm4, c_2 hC hm4, c_3 hC hm4, c_4 hC hm4, c_5 hC hm4, c_6 hC hm4, c_10 hC hm4, c_11 hC hm4, c_12 hC hm4, c_13 hC hm4, c_14 hC hm4, c_15 hC hm4, c_16 hC hm4, c_t0 hC hm4, c_t1 hC hm4, c_t2 hC hm4, c_t3 hC hm4, c_t4 hC hm4, c_t5 hC hm4, c_t6 hC hm4, c_t7 hC hm4, e_hasSigns hC hm4, e_room hC hm4, nI_subI ha, ite01]
  by_cases k : s.1 m 1 = 1 ∨ s.1 m 1 = 5
  · have n2 : ¬ s.1 m 1 = 2 := by rcases k with k | k <;> rw [k] <;> decide
    have n3 : ¬ (s.1 m 1 = 3 ∨ s.1 m 1 = 4) := by rcases k with k | k <;> rw [k] <;> decide
    rw [if_neg (fun q => q k)]
    obtain ⟨d, hd, hd2, _⟩ := rm_le hI hm
    have hrm : (rm s m).toNatClampNeg = d := by rw [hd2, nI_clamp (by omega)]
    have hcc : nI (e - a) ≤ rm s m ↔ (seg (s.2.2.1 40 2) a e).length ≤ (rm s m).toNatClampNeg := by rw [hrm, hd2, nI_leI (by omega) (by omega), hL]
    by_cases c : nI (e - a) ≤ rm s m
    · obtain ⟨b, b1, b2, b3⟩ := e_cts15 (N := N) (h := h) hC hm4 he N a ha (by omega)
      refine ⟨b, ?_, b2, b3.trans ⟨fun q => ⟨Or.inl ⟨k, hcc.mp c, q⟩, fun q => absurd q n3⟩, fun q => ?_⟩⟩
      · rw [if_pos c, b1]
        simp only [Option.bind_some, bRT, bRW, bWW, bW, le0, ne10, if_true, if_false, not_true_eq_false, not_false_eq_true, uI_at, uA_1, uB_1, uG_1, uI_2, if_pos b2]
      · rcases q.1 with q | q | q
        · exact q.2.2
        · exact absurd q.1 n2
        · exact absurd q.1 n3
    · refine ⟨0, ?_, Or.inl rfl, ⟨fun q => absurd q (by decide), fun q => ?_⟩⟩
      · rw [if_neg c]
        simp only [Option.bind_some, bRT, bRW, bWW, bW, le0, ne10, if_true, if_false, not_true_eq_false, not_false_eq_true, uI_at, uA_1, uB_1, uG_1, uI_2, true_or]
      · rcases q.1 with q | q | q
        · exact absurd (hcc.mpr q.2.1) c
        · exact absurd q.1 n2
        · exact absurd q.1 n3
  · rw [if_pos k]
    by_cases k2 : s.1 m 1 = 2
    · have n3 : ¬ (s.1 m 1 = 3 ∨ s.1 m 1 = 4) := by rw [k2]; decide
      rw [if_pos k2]
      have out : ∀ X, okV s m X ↔ (X = [48] ∨ X = [49]) := fun X => ⟨fun q => by
        rcases q.1 with q | q | q
        · exact absurd q.1 k
        · exact q.2
        · exact absurd q.1 n3, fun q => ⟨Or.inr (Or.inl ⟨k2, q⟩), fun q => absurd q n3⟩⟩
      rw [out]
      by_cases c : e - a = 1
      · rw [if_pos (show nI (e - a) = (1 : Int32) by rw [c]; rfl), seg1 c he]
        simp only [e_getI hC (show a < (s.2.2.1 40 2).length by omega), Option.bind_some, bRT, bRW, bWW, bW, le0, ne10, if_true, if_false, not_true_eq_false, not_false_eq_true, uI_at, uA_1, uB_1, uG_1, uI_2, e_isFlag, ite01, x48, x49]
        by_cases y : (s.2.2.1 40 2).getD a 0 = 48 ∨ (s.2.2.1 40 2).getD a 0 = 49
        · refine ⟨1, by rw [if_neg (fun q => q y)], Or.inr rfl, ⟨fun _ => ?_, fun _ => rfl⟩⟩
          rcases y with y | y <;> rw [y] <;> simp
        · refine ⟨0, by rw [if_pos y], Or.inl rfl, ⟨fun q => absurd q (by decide), fun q => absurd ?_ y⟩⟩
          rcases q with q | q
          · exact Or.inl (List.cons.inj q).1
          · exact Or.inr (List.cons.inj q).1
      · refine ⟨0, by rw [if_neg (show ¬ nI (e - a) = (1 : Int32) from fun q => c ((nI_eq (b := 1) (by omega) (by omega)).mp q))], Or.inl rfl, ⟨fun q => absurd q (by decide), fun q => ?_⟩⟩
        rcases q with q | q <;> rw [q] at hL <;> simp at hL <;> omega
    · rw [if_neg k2]
      have k34 : s.1 m 1 = 3 ∨ s.1 m 1 = 4 := by
        rcases hI.k6 hm with y | y | y | y | y | y
        · exact absurd y hk0
        · exact absurd (Or.inl y) k
        · exact absurd y k2
        · exact Or.inl y
        · exact Or.inr y
        · exact absurd (Or.inr y) k
      by_cases c : a = e
      · subst c
        rw [if_pos rfl, seg_nil]
        simp only [e_mayBeNone hC hm4, Option.bind_some, bRT, bRW, bWW, bW, le0, ne10, if_true, if_false, not_true_eq_false, not_false_eq_true, uI_at, uA_1, uB_1, uG_1, uI_2]
        by_cases y : mbn s m
        · exact ⟨1, by simp only [if_pos y, or_true, if_true], Or.inr rfl, ⟨fun _ => ⟨Or.inr (Or.inr ⟨k34, Or.inl rfl⟩), fun _ _ => y⟩, fun _ => rfl⟩⟩
        · exact ⟨0, by simp only [if_neg y, true_or, if_true], Or.inl rfl, ⟨fun q => absurd q (by decide), fun q => absurd (q.2 k34 rfl) y⟩⟩
      · rw [if_neg (fun q => c ((nI_eq (by omega) (by omega)).mp q))]
        simp only [e_plain hN hC ha he, Option.bind_some, bRT, bRW, bWW, bW, le0, ne10, if_true, if_false, not_true_eq_false, not_false_eq_true, uI_at, uA_1, uB_1, uG_1, uI_2]
        have hne : ¬ seg (s.2.2.1 40 2) a e = [] := fun q => by rw [q] at hL; simp at hL; omega
        have hl12 := (hC.len hm4).2
        cases ep : pn (seg (s.2.2.1 40 2) a e) with
        | none =>
          refine ⟨0, by simp only [if_true], Or.inl rfl, ⟨fun q => absurd q (by decide), fun q => ?_⟩⟩
          rcases q.1 with q | q | q
          · exact absurd q.1 k
          · exact absurd q.1 k2
          · rcases q.2 with q | ⟨x, q, _⟩
            · exact absurd q hne
            · rw [ep] at q
              exact absurd q (by simp)
        | some x =>
          obtain ⟨p1, p2⟩ := pn_some ep
          simp only [nI_nm1 (show x < 2 ^ 31 by omega), if_false, e_findL (hC.cd hm4) _ (show 8001 ≤ N by omega), Option.bind_some, bRT, bRW, bWW, bW, le0, ne10, if_true, if_false, not_true_eq_false, not_false_eq_true, uI_at, uA_1, uB_1, uG_1, uI_2, fnd_none _ _ 0 (show 0 + (s.2.2.1 m 1).length < 2 ^ 31 by omega)]
          by_cases y : nI x ∈ s.2.2.1 m 1
          · exact ⟨1, by rw [if_neg (fun q => q y)], Or.inr rfl, ⟨fun _ => ⟨Or.inr (Or.inr ⟨k34, Or.inr ⟨x, ep, y⟩⟩), fun _ q => absurd q hne⟩, fun _ => rfl⟩⟩
          · refine ⟨0, by rw [if_pos y], Or.inl rfl, ⟨fun q => absurd q (by decide), fun q => ?_⟩⟩
            rcases q.1 with q | q | q
            · exact absurd q.1 k
            · exact absurd q.1 k2
            · rcases q.2 with q | ⟨x', q, q2⟩
              · exact absurd q hne
              · rw [ep, Option.some.injEq] at q
                rw [← q] at q2
                exact absurd q2 y
/-! lines -/
def pre (s : AS) (p m : Nat) : Prop := ∃ R, (s.2.2.1 40 2).drop p = spl s m ++ 61 :: R
def vat (s : AS) (p m : Nat) : List Int32 := seg (s.2.2.1 40 2) (p + (spl s m).length + 1) (eol (s.2.2.1 40 2) p)
def GD (s : AS) (p : Nat) : Prop := eol (s.2.2.1 40 2) p < (s.2.2.1 40 2).length ∧ ∃ m, m < s.2.2.2 ∧ mst s m ∧ s.1 m 6 = 0 ∧ pre s p m ∧ okV s m (vat s p m)
theorem eol_ge {I : List Int32} {p : Nat} (h : p ≤ I.length) : p ≤ eol I p ∧ eol I p ≤ I.length := by
  have := nxt_ge I 10 (I.length - p) p
  unfold eol
  omega
theorem dgc_n10 {c : Int32} (h : dgc c) : ¬ c = 10 := dgc_ne h (by decide)
theorem pre_q {s : AS} {p m : Nat} (hp : p ≤ (s.2.2.1 40 2).length) (h : pre s p m) : p + (spl s m).length + 1 ≤ eol (s.2.2.1 40 2) p ∧ nxt (s.2.2.1 40 2) 61 (eol (s.2.2.1 40 2) p - p) p = p + (spl s m).length ∧ seg (s.2.2.1 40 2) p (p + (spl s m).length) = spl s m := by
  obtain ⟨R, hR⟩ := h
  have hR2 : (s.2.2.1 40 2).drop p = (spl s m ++ [61]) ++ R := by rw [hR]; simp
  have hl : (spl s m).length + 1 ≤ (s.2.2.1 40 2).length - p := by
    have := congrArg List.length hR
    rw [List.length_drop, List.length_append, List.length_cons] at this
    omega
  have e10 : p + (spl s m).length + 1 ≤ eol (s.2.2.1 40 2) p := by
    unfold eol
    rw [nxt_pre _ _ _ _ hR2 (fun y hy => ?_) (by rw [List.length_append]; exact hl)]
    · have := (nxt_ge (s.2.2.1 40 2) 10 ((s.2.2.1 40 2).length - p - (spl s m ++ [61]).length) (p + (spl s m ++ [61]).length)).1
      rw [List.length_append, List.length_singleton] at this ⊢
      omega
    · rw [List.mem_append, List.mem_singleton] at hy
      rcases hy with hy | hy
      · rcases upL_dg _ y hy with q | q
        · exact dgc_n10 q
        · rw [q]; decide
      · rw [hy]; decide
  refine ⟨e10, ?_, seg_of hR⟩
  rw [nxt_pre _ _ _ _ hR (fun y hy => ?_) (by omega)]
  · obtain ⟨u, hu⟩ : ∃ u, eol (s.2.2.1 40 2) p - p - (spl s m).length = u + 1 := ⟨eol (s.2.2.1 40 2) p - p - (spl s m).length - 1, by omega⟩
    have e1 := drop_of hR
    rw [drop_cons (show p + (spl s m).length < (s.2.2.1 40 2).length by omega), List.cons.injEq] at e1
    rw [hu, nxt, if_pos e1.1]
  · rcases upL_dg _ y hy with q | q
    · exact dgc_n61 q
    · rw [q]; decide
theorem q_pre {s : AS} {p m q : Nat} (hp : p ≤ (s.2.2.1 40 2).length) (hq : q = nxt (s.2.2.1 40 2) 61 (eol (s.2.2.1 40 2) p - p) p) (hl : q < eol (s.2.2.1 40 2) p) (h : seg (s.2.2.1 40 2) p q = spl s m) : pre s p m ∧ q = p + (spl s m).length := by
  obtain ⟨e1, e2⟩ := eol_ge hp
  have n1 := nxt_ge (s.2.2.1 40 2) 61 (eol (s.2.2.1 40 2) p - p) p
  have n2 := nxt_at (s.2.2.1 40 2) 61 (eol (s.2.2.1 40 2) p - p) p
  rw [← hq] at n1 n2
  have hL := seg_len (I := s.2.2.1 40 2) (a := p) (b := q) (by omega) (by omega)
  rw [h] at hL
  refine ⟨⟨(s.2.2.1 40 2).drop (q + 1), ?_⟩, by omega⟩
  rw [seg_drop (show p ≤ q by omega), h, drop_cons (show q < (s.2.2.1 40 2).length by omega), n2 (by omega)]
theorem pre_un {N h : Nat} (hN : 10000 ≤ N) {σ : SG} {s : AS} (hC : RC σ s) (hI : Inv s) {p m m' : Nat} (hp : p ≤ (s.2.2.1 40 2).length) (hm : m < s.2.2.2) (hm' : m' < s.2.2.2) (h1 : mst s m) (h2 : mst s m') (q1 : pre s p m) (q2 : pre s p m') : m = m' := by
  obtain ⟨a1, a2, a3⟩ := pre_q hp q1
  obtain ⟨b1, b2, b3⟩ := pre_q hp q2
  have el : p + (spl s m).length = p + (spl s m').length := by rw [← a2, b2]
  obtain ⟨e1, e2⟩ := eol_ge hp
  rw [← el] at b3
  obtain ⟨r, r1, r2⟩ := e_named (N := N) (h := h) hN hC hI (p := p) (q := p + (spl s m).length) (by omega) (by omega)
  rcases r2 with ⟨_, r2⟩ | ⟨m0, _, _, _, _, r2⟩
  · exact absurd a3 (r2 m hm h1)
  · rw [r2 m hm h1 a3, r2 m' hm' h2 b3]
theorem e_isGood {N h : Nat} (hN : 10000 ≤ N) {σ : SG} {s : AS} (hC : RC σ s) (hI : Inv s) {p : Nat} (hp : p ≤ (s.2.2.1 40 2).length) : ∃ b : Int32, DX4_isGood N (h + 258) (nI p) (nI (eol (s.2.2.1 40 2) p)) (HH h σ) = some (.inl b) ∧ (b = 0 ∨ b = 1) ∧ (b = 1 ↔ GD s p) := by
  have hlen := hC.inlen
  have hn := hI.n40
  obtain ⟨e1, e2⟩ := eol_ge hp
  obtain ⟨q1, q2⟩ := nxt_ge (s.2.2.1 40 2) 61 (eol (s.2.2.1 40 2) p - p) p
  obtain ⟨q, hq⟩ : ∃ q, q = nxt (s.2.2.1 40 2) 61 (eol (s.2.2.1 40 2) p - p) p := ⟨_, rfl⟩
  rw [← hq] at q1 q2
  obtain ⟨r, r1, r2⟩ := e_named (N := N) (h := h) hN hC hI (p := p) (q := q) q1 (by omega)
  simp only [DX4_isGood, o_ck, o_0, o_1, o_2, o_3, o_4, o_5, o_6, t_ck, t_0, v_ck, v_0, q_ck, q_0, q_1, q_2, q_3, q_4, wr_ck, wr_0, wr_1, wr_2, rd_ck, rd_0, rd_1, Option.bind_some, bRT, bRW, bWW, bW, le0, ne10, if_true, if_false, not_true_eq_false, not_false_eq_true, uI_at, uA_1, uB_1, uG_1, uI_2, e_next hN hC 61 e1 e2, ← hq, r1, e_cntL hC.inp]
  by_cases c1 : eol (s.2.2.1 40 2) p = (s.2.2.1 40 2).length
  · exact ⟨0, by rw [if_pos (by rw [c1])], Or.inl rfl, ⟨fun y => absurd y (by decide), fun y => by have := y.1; omega⟩⟩
  · rw [if_neg (fun y => c1 ((nI_eq (by omega) (by omega)).mp y))]
    by_cases c2 : q = eol (s.2.2.1 40 2) p
    · refine ⟨0, by rw [if_pos (by rw [c2])], Or.inl rfl, ⟨fun y => absurd y (by decide), fun ⟨_, m, _, _, _, y, _⟩ => ?_⟩⟩
      obtain ⟨a1, a2, _⟩ := pre_q hp y
      rw [← hq] at a2
      omega
    · rw [if_neg (fun y => c2 ((nI_eq (by omega) (by omega)).mp y))]
      rcases r2 with ⟨rfl, r2⟩ | ⟨m, hm, hms, rfl, r2, r3⟩
      · refine ⟨0, by rw [if_pos rfl], Or.inl rfl, ⟨fun y => absurd y (by decide), fun ⟨_, m, hm, hms, _, y, _⟩ => ?_⟩⟩
        obtain ⟨a1, a2, a3⟩ := pre_q hp y
        rw [← a2, ← hq] at a3
        exact absurd a3 (r2 m hm hms)
      · obtain ⟨b1, b2⟩ := q_pre hp hq (by omega) r2
        have hm4 : m < 40 := by omega
        have hun : ∀ m', m' < s.2.2.2 → mst s m' → pre s p m' → m' = m := fun m' hm' hms' y => by
          obtain ⟨a1, a2, a3⟩ := pre_q hp y
          rw [← a2, ← hq] at a3
          exact r3 m' hm' hms' a3
        rw [if_neg (nI_nm1 (by omega))]
        simp only [e_tg hC hm, Option.bind_some, bRT, bRW, bWW, bW, le0, ne10, if_true, if_false, not_true_eq_false, not_false_eq_true, uI_at, uA_1, uB_1, uG_1, uI_2, c_6 hC hm4, nI_1]
        by_cases c3 : s.1 m 6 = 0
        · rw [if_pos c3]
          obtain ⟨b, k1, k2, k3⟩ := e_ctk (N := N) (h := h) hN hC hI hm hms.1 (a := q + 1) (e := eol (s.2.2.1 40 2) p) (by omega) e2
          have hvat : vat s p m = seg (s.2.2.1 40 2) (q + 1) (eol (s.2.2.1 40 2) p) := by unfold vat; rw [b2]
          rw [k1]
          simp only [Option.bind_some, bRT, bRW, bWW, bW, le0, ne10, if_true, if_false, not_true_eq_false, not_false_eq_true, uI_at, uA_1, uB_1, uG_1, uI_2]
          rcases k2 with k2 | k2
          · refine ⟨0, by rw [if_pos k2], Or.inl rfl, ⟨fun y => absurd y (by decide), fun ⟨_, m', hm', hms', _, y, y2⟩ => ?_⟩⟩
            rw [hun m' hm' hms' y, hvat] at y2
            have := k3.mpr y2
            rw [k2] at this
            exact absurd this (by decide)
          · refine ⟨1, by rw [if_neg (by rw [k2]; decide)], Or.inr rfl, ⟨fun _ => ⟨by omega, m, hm, hms, c3, b1, by rw [hvat]; exact k3.mp k2⟩, fun _ => rfl⟩⟩
        · refine ⟨0, by rw [if_neg c3], Or.inl rfl, ⟨fun y => absurd y (by decide), fun ⟨_, m', hm', hms', y3, y, _⟩ => ?_⟩⟩
          rw [hun m' hm' hms' y] at y3
          exact absurd y3 c3
/-! taking a value -/
theorem fnd_mem {x : Int32} : ∀ (l : List Int32) (j : Nat), x ∈ l → ∃ d, d < l.length ∧ fnd x l j = nI (j + d) ∧ l.getD d 0 = x ∧ ∀ e, e < d → ¬ l.getD e 0 = x
  | [], j, h => absurd h (by simp)
  | y :: ys, j, h => by
    rw [fnd]
    by_cases c : y = x
    · exact ⟨0, by simp, by rw [if_pos c]; rfl, c, fun e he => by omega⟩
    · rw [if_neg c]
      rcases List.mem_cons.mp h with q | q
      · exact absurd q.symm c
      · obtain ⟨d, d1, d2, d3, d4⟩ := fnd_mem ys (j + 1) q
        refine ⟨d + 1, by simp; omega, by rw [d2]; congr 1; omega, d3, fun e he => ?_⟩
        cases e with
        | zero => exact c
        | succ e => exact d4 e (by omega)
theorem pn_nil : pn [] = none := by
  unfold pn
  rw [if_neg (by simp)]
theorem inv_tkV {s : AS} (hI : Inv s) {m : Nat} (hm : m < s.2.2.2) {X : List Int32} (h : okT s m X) : Inv (tkV s m X) := by
  have hn := hI.n40
  unfold tkV
  by_cases k : s.1 m 1 = 1 ∨ s.1 m 1 = 5
  · rw [if_pos k]
    refine hI.sg hm (fun k5 => ?_)
    rcases h with q | q | q
    · obtain ⟨d, hd, hd2, hd3⟩ := rm_le hI hm
      have q2 := q.2.1
      rw [hd2, nI_clamp (by omega), hd3 k5] at q2
      exact q2
    · rw [k5] at q; exact absurd q.1 (by decide)
    · rw [k5] at q; exact absurd q.1 (by decide)
  · rw [if_neg k]
    by_cases k2 : s.1 m 1 = 2
    · rw [if_pos k2]
      refine hI.pick hm (fun _ => ?_) (fun q => by rw [k2] at q; exact absurd q (by decide))
      rcases h with q | q | q
      · exact absurd q.1 k
      · rcases q.2 with e | e <;> rw [e]
        · exact Or.inl rfl
        · exact Or.inr rfl
      · rw [k2] at q; exact absurd q.1 (by decide)
    · rw [if_neg k2]
      refine hI.pick hm (fun q => absurd q k2) (fun _ => ?_)
      rcases h with q | q | q
      · exact absurd q.1 k
      · exact absurd q.1 k2
      · rcases q.2 with e | ⟨x, e1, e2⟩
        · rw [e, pn_nil]
          exact Or.inl rfl
        · rw [e1]
          obtain ⟨d, d1, d2, _⟩ := fnd_mem (s.2.2.1 m 1) 0 e2
          refine Or.inr ⟨d, d1, ?_⟩
          show fnd (nI x) (s.2.2.1 m 1) 0 = nI d
          rw [d2, Nat.zero_add]
theorem e_take {N h : Nat} (hN : 10000 ≤ N) {σ : SG} {s : AS} (hC : RC σ s) (hI : Inv s) {p m : Nat} (hp : p ≤ (s.2.2.1 40 2).length) (hm : m < s.2.2.2) (hms : mst s m) (hpre : pre s p m) (hok : okT s m (vat s p m)) : ∃ τ, DX4_take N (h + 258) (nI p) (nI (eol (s.2.2.1 40 2) p)) (HH h σ) = some (.inl (), HH h τ) ∧ RC τ (tkV s m (vat s p m)) ∧ fc σ τ := by
  have hlen := hC.inlen
  have hn := hI.n40
  have hm4 : m < 40 := by omega
  obtain ⟨e1, e2⟩ := eol_ge hp
  obtain ⟨a1, a2, a3⟩ := pre_q hp hpre
  obtain ⟨q, hq⟩ : ∃ q, q = p + (spl s m).length := ⟨_, rfl⟩
  have hvat : vat s p m = seg (s.2.2.1 40 2) (q + 1) (eol (s.2.2.1 40 2) p) := by unfold vat; rw [hq]
  rw [← hq] at a1 a2 a3
  obtain ⟨r, r1, r2⟩ := e_named (N := N) (h := h) hN hC hI (p := p) (q := q) (by omega) (by omega)
  have er : r = nI m := by
    rcases r2 with ⟨_, r2⟩ | ⟨m0, _, _, r3, _, r2⟩
    · exact absurd a3 (r2 m hm hms)
    · rw [r3, r2 m hm hms a3]
  subst er
  have hpl := e_plain (N := N) (h := h) hN hC (a := q + 1) (b := eol (s.2.2.1 40 2) p) a1 e2
  rw [← hvat] at hpl
  have hL := seg_len (I := s.2.2.1 40 2) (a := q + 1) (b := eol (s.2.2.1 40 2) p) a1 e2
  rw [← hvat] at hL
  simp only [DX4_take, o_ck, o_0, o_1, o_2, o_3, o_4, o_5, o_6, t_ck, t_0, v_ck, v_0, q_ck, q_0, q_1, q_2, q_3, q_4, wr_ck, wr_0, wr_1, wr_2, rd_ck, rd_0, rd_1, Option.bind_some, bRT, bRW, bWW, bW, le0, ne10, if_true, if_false, not_true_eq_false, not_false_eq_true, uI_at, uA_1, uB_1, uG_1, uI_2, e_next hN hC 61 e1 e2, a2, r1, nI_nm1 (show m < 2 ^ 31 by omega), e_tg hC hm, e_hasSigns hC hm4, ite01, c_1 hC hm4, g8 hm4, g9 hm4, nI_1, hpl]
  unfold tkV
  by_cases k : s.1 m 1 = 1 ∨ s.1 m 1 = 5
  · rw [if_neg (fun y => y k), if_pos k]
    have hX : (vat s p m).length ≤ 30 := by
      rcases hok with y | y | y
      · obtain ⟨d, hd, hd2, hd3⟩ := rm_le hI hm
        have y2 := y.2.1
        rw [hd2, nI_clamp (by omega)] at y2
        omega
      · rcases k with k | k <;> rw [k] at y <;> exact absurd y.1 (by decide)
      · rcases k with k | k <;> rw [k] at y <;> exact absurd y.1 (by decide)
    have hsg := hC.sg hm4
    have hk2 : rok (uI σ (3 + 6 * m + 2) 1 0) (3 + 6 * m + 2) := rclear_ok hsg.1
    have hin : agr σ (uI σ (3 + 6 * m + 2) 1 0) 259 ∧ agr σ (uI σ (3 + 6 * m + 2) 1 0) (259 + 1) := ⟨(sbut.uI (ks := [3 + 6 * m + 2]) (by simp)).ag (by simp; omega), (sbut.uI (ks := [3 + 6 * m + 2]) (by simp)).ag (by simp; omega)⟩
    have hr9 : rlist (uI σ (3 + 6 * m + 2) 1 0) 259 = s.2.2.1 40 2 := by rw [rlist_ag hin.1 hin.2, hC.inp.2]
    have had := e_addAll (N := N) (h := h) hN (r := 3 + 6 * m + 2) (r' := 259) (by omega) (t := eol (s.2.2.1 40 2) p) (q := q + 1) (σ := uI σ (3 + 6 * m + 2) 1 0) (by omega) hk2 (hC.inp.1.ag hin.1) (by rw [hr9]; exact e2)
    rw [hr9] at had
    have hsb : sbut [3 + 6 * m + 2, 3 + 6 * m + 2 + 1] σ (rapp (uI σ (3 + 6 * m + 2) 1 0) (3 + 6 * m + 2) (vat s p m)) := (sbut.uI (by simp)).tr (rapp_but _ _ _)
    refine ⟨rapp (uI σ (3 + 6 * m + 2) 1 0) (3 + 6 * m + 2) (vat s p m), ?_, hC.S hm4 hsb (rapp_ok _ hk2) ?_, fc.but hsb (by simp; omega)⟩
    · simp only [e_clear (kd_S hm4), Option.bind_some, bRT, bRW, bWW, bW, le0, ne10, if_true, if_false, not_true_eq_false, not_false_eq_true, uI_at, uA_1, uB_1, uG_1, uI_2, g8 hm4, o_ck, o_0, o_1, o_2, o_3, o_4, o_5, o_6, t_ck, t_0, v_ck, v_0, q_ck, q_0, q_1, q_2, q_3, q_4, wr_ck, wr_0, wr_1, wr_2, rd_ck, rd_0, rd_1, had]
      rw [hvat]
      rfl
    · rw [rapp_list _ (by rw [rclear_rc, ln_S hm4]; omega), rclear_list]
      rfl
  · rw [if_pos k, if_neg k]
    by_cases k2 : s.1 m 1 = 2
    · rw [if_pos k2, if_pos k2]
      have h1 : eol (s.2.2.1 40 2) p - (q + 1) = 1 := by
        rcases hok with y | y | y
        · exact absurd y.1 k
        · rcases y.2 with y | y <;> rw [y] at hL <;> simp at hL <;> omega
        · rw [k2] at y; exact absurd y.1 (by decide)
      simp only [e_getI hC (show q + 1 < (s.2.2.1 40 2).length by omega), Option.bind_some, bRT, bRW, bWW, bW, le0, ne10, if_true, if_false, not_true_eq_false, not_false_eq_true, uI_at, uA_1, uB_1, uG_1, uI_2, p_1_10 (kd_F hm4)]
      refine ⟨_, rfl, ?_, fc.I (by omega)⟩
      rw [hvat, seg1 h1 e2]
      exact hC.I hm4 (by omega) _
    · rw [if_neg k2, if_neg k2]
      simp only [e_findL (hC.cd hm4) _ (show 8001 ≤ N by omega), Option.bind_some, bRT, bRW, bWW, bW, le0, ne10, if_true, if_false, not_true_eq_false, not_false_eq_true, uI_at, uA_1, uB_1, uG_1, uI_2, p_1_10 (kd_F hm4)]
      refine ⟨_, rfl, ?_, fc.I (by omega)⟩
      cases pn (vat s p m) with
      | none =>
        have hl12 := (hC.len hm4).2
        have h0 : fnd (-1) (s.2.2.1 m 1) 0 = -1 := (fnd_none _ _ 0 (by omega)).mpr (fun y => by
          obtain ⟨d, hd, y2⟩ := (hI.V hm).2.2.2.2.2.2 _ y
          exact nI_nm1 (show d < 2 ^ 31 by omega) y2.symm)
        show RC (uI σ (3 + 6 * m) 10 (fnd (-1) (s.2.2.1 m 1) 0)) (sA s m 10 (-1))
        rw [h0]
        exact hC.I hm4 (by omega) _
      | some x => exact hC.I hm4 (by omega) _
