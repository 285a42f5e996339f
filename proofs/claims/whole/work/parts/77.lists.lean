/-! READING: lists -/
def seg (I : List Int32) (a b : Nat) : List Int32 := (I.drop a).take (b - a)
def nxt (I : List Int32) (c : Int32) : Nat → Nat → Nat
  | 0, p => p
  | w + 1, p => if I.getD p 0 = c then p else nxt I c w (p + 1)
theorem nxt_ge (I : List Int32) (c : Int32) : ∀ w p, p ≤ nxt I c w p ∧ nxt I c w p ≤ p + w
  | 0, p => ⟨Nat.le_refl _, Nat.le_refl _⟩
  | w + 1, p => by
    rw [nxt]
    split
    · omega
    · have := nxt_ge I c w (p + 1)
      omega
theorem nxt_no (I : List Int32) (c : Int32) : ∀ w p j, p ≤ j → j < nxt I c w p → ¬ I.getD j 0 = c
  | 0, p, j, h1, h2 => by simp only [nxt] at h2; omega
  | w + 1, p, j, h1, h2 => by
    rw [nxt] at h2
    by_cases e : I.getD p 0 = c
    · rw [if_pos e] at h2
      omega
    · rw [if_neg e] at h2
      by_cases q : j = p
      · rw [q]; exact e
      · exact nxt_no I c w (p + 1) j (by omega) h2
theorem nxt_at (I : List Int32) (c : Int32) : ∀ w p, nxt I c w p < p + w → I.getD (nxt I c w p) 0 = c
  | 0, p, h => by simp only [nxt] at h; omega
  | w + 1, p, h => by
    rw [nxt] at h ⊢
    by_cases e : I.getD p 0 = c
    · rw [if_pos e]
      exact e
    · rw [if_neg e] at h ⊢
      exact nxt_at I c w (p + 1) (by omega)
theorem nxt_pre {I : List Int32} {c : Int32} : ∀ (Y R : List Int32) (w p : Nat), I.drop p = Y ++ R → (∀ y ∈ Y, ¬ y = c) → Y.length ≤ w → nxt I c w p = nxt I c (w - Y.length) (p + Y.length)
  | [], R, w, p, _, _, _ => rfl
  | y :: Y, R, w, p, h, hy, hw => by
    obtain ⟨w', rfl⟩ : ∃ w', w = w' + 1 := ⟨w - 1, by simp at hw; omega⟩
    have hp : p < I.length := by
      rcases Nat.lt_or_ge p I.length with q | q
      · exact q
      · rw [List.drop_eq_nil_of_le q] at h
        exact absurd h (by simp)
    rw [drop_cons hp, List.cons_append, List.cons.injEq] at h
    rw [nxt, h.1, if_neg (hy y (by simp)), nxt_pre Y R w' (p + 1) h.2 (fun z hz => hy z (by simp [hz])) (by simp at hw; omega)]
    simp only [List.length_cons]
    rw [show w' + 1 - (Y.length + 1) = w' - Y.length by omega, show p + 1 + Y.length = p + (Y.length + 1) by omega]
theorem seg_len {I : List Int32} {a b : Nat} (h : a ≤ b) (hb : b ≤ I.length) : (seg I a b).length = b - a := by
  unfold seg
  rw [List.length_take, List.length_drop]
  omega
theorem seg_nil (I : List Int32) (a : Nat) : seg I a a = [] := by simp [seg]
theorem seg_cons {I : List Int32} {a b : Nat} (h : a < b) (hb : b ≤ I.length) : seg I a b = I.getD a 0 :: seg I (a + 1) b := by
  unfold seg
  rw [drop_cons (by omega), show b - a = (b - (a + 1)) + 1 by omega, List.take_succ_cons]
theorem seg_app {I : List Int32} {a b c : Nat} (h : a ≤ b) (h2 : b ≤ c) : seg I a c = seg I a b ++ seg I b c := by
  unfold seg
  rw [show c - a = (b - a) + (c - b) by omega, List.take_add, List.drop_drop, show a + (b - a) = b by omega]
theorem seg_drop {I : List Int32} {a b : Nat} (h : a ≤ b) : I.drop a = seg I a b ++ I.drop b := by
  unfold seg
  have := (List.take_append_drop (b - a) (I.drop a)).symm
  rw [List.drop_drop, show a + (b - a) = b by omega] at this
  exact this
theorem seg_of {I Y R : List Int32} {a : Nat} (h : I.drop a = Y ++ R) : seg I a (a + Y.length) = Y := by
  unfold seg
  rw [h, show a + Y.length - a = Y.length by omega, List.take_left]
theorem drop_of {I Y R : List Int32} {a : Nat} (h : I.drop a = Y ++ R) : I.drop (a + Y.length) = R := by
  rw [← List.drop_drop, h, List.drop_left]
theorem seg_get {I : List Int32} {a b j : Nat} (h : a + j < b) (hb : b ≤ I.length) : (seg I a b).getD j 0 = I.getD (a + j) 0 := by
  have hj : j < (seg I a b).length := by rw [seg_len (by omega) hb]; omega
  rw [List.getD_eq_getElem?_getD, List.getD_eq_getElem?_getD]
  unfold seg
  rw [List.getElem?_take_of_lt (by omega), List.getElem?_drop]
/-! plain numbers -/
def pn (X : List Int32) : Option Nat := if (1 ≤ X.length ∧ X.length ≤ 5) ∧ (X.length = 1 ∨ ¬ X.getD 0 0 = 48) ∧ run X = X.length then some (rval 0 X) else none
theorem ndg_low (n : Nat) : ∀ w d, ndg n w d = d ∨ (d < ndg n w d ∧ 10 ^ (ndg n w d - 1) ≤ n)
  | 0, d => Or.inl rfl
  | w + 1, d => by
    rw [ndg]
    by_cases c : n / 10 ^ d = 0
    · rw [if_pos c]; exact Or.inl rfl
    · rw [if_neg c]
      right
      have h1 : 10 ^ d ≤ n := by
        rcases Nat.lt_or_ge n (10 ^ d) with q | q
        · exact absurd (Nat.div_eq_of_lt q) c
        · exact q
      rcases ndg_low n w (d + 1) with q | q
      · rw [q]
        exact ⟨by omega, by rw [show d + 1 - 1 = d by omega]; exact h1⟩
      · exact ⟨by omega, q.2⟩
theorem ndg_high (n : Nat) : ∀ w d, n < 10 ^ (d + w) → n < 10 ^ (ndg n w d)
  | 0, d, h => h
  | w + 1, d, h => by
    rw [ndg]
    by_cases c : n / 10 ^ d = 0
    · rw [if_pos c]
      rcases Nat.lt_or_ge n (10 ^ d) with q | q
      · exact q
      · have := Nat.div_pos q (Nat.pow_pos (by omega))
        omega
    · rw [if_neg c]
      exact ndg_high n w (d + 1) (by rw [show d + 1 + w = d + (w + 1) by omega]; exact h)
theorem nd_low (n : Nat) : nd n = 1 ∨ (1 < nd n ∧ 10 ^ (nd n - 1) ≤ n) := ndg_low n 17 1
theorem nd_high {n : Nat} (h : n ≤ 99999) : n < 10 ^ nd n := ndg_high n 17 1 (Nat.lt_of_le_of_lt h (by decide))
theorem nd_1 (n : Nat) : 1 ≤ nd n := ndg_ge n 17 1
theorem nd_eq {n k : Nat} (hk : 1 ≤ k) (h0 : n ≤ 99999) (h1 : n < 10 ^ k) (h2 : k = 1 ∨ 10 ^ (k - 1) ≤ n) : nd n = k := by
  have a := nd_k h1 hk
  have b := nd_1 n
  rcases h2 with e | e
  · omega
  · have c := nd_high h0
    rcases Nat.lt_or_ge (nd n) k with q | q
    · have := Nat.pow_le_pow_right (n := 10) (by omega) (show nd n ≤ k - 1 by omega)
      omega
    · omega
theorem rval_lt0 {X : List Int32} (h : run X = X.length) : rval 0 X < 10 ^ X.length := by
  have := rval_lt X 0
  rw [h] at this
  simpa using this
theorem run_tl {x : Int32} {X : List Int32} (h : run (x :: X) = (x :: X).length) : dgc x ∧ run X = X.length := by
  by_cases c : dgc x
  · rw [run_d c, List.length_cons] at h
    exact ⟨c, by omega⟩
  · rw [run_n c, List.length_cons] at h
    omega
theorem nl_rv : ∀ (X : List Int32) (a : Nat), run X = X.length → nl (rval a X) false X.length = X
  | [], _, _ => rfl
  | x :: X, a, h => by
    obtain ⟨c, h2⟩ := run_tl h
    obtain ⟨d, hd, e, e2⟩ := dgc_n c
    have hlt := rval_lt0 h2
    rw [rval_d c, List.length_cons, nl]
    rw [nl_rv X _ h2]
    simp only [Bool.false_eq_true, false_and, if_false, List.nil_append]
    congr 1
    unfold dig
    rw [rval_add, h2, Nat.add_comm (_ * _) (rval 0 X), Nat.add_mul_div_right _ _ (Nat.pow_pos (by omega)), Nat.div_eq_of_lt hlt, e2, e]
    congr 1
    omega
theorem nl_dg (n : Nat) : ∀ b, ∀ c ∈ nl n false b, dgc c
  | 0, c, h => absurd h (by simp [nl])
  | b + 1, c, h => by
    rw [nl] at h
    simp only [Bool.false_eq_true, false_and, if_false, List.nil_append, List.mem_cons] at h
    rcases h with h | h
    · rw [h]
      unfold dig
      have : n / 10 ^ b % 10 < 10 := Nat.mod_lt _ (by omega)
      exact ⟨nI_nlt (a := 48 + n / 10 ^ b % 10) (b := 48) (by omega) (by omega), nI_nlt (a := 57) (b := 48 + n / 10 ^ b % 10) (by omega) (by omega)⟩
    · exact nl_dg n b c h
theorem numL_dg {n : Nat} {c : Int32} (h : c ∈ numL n false) : dgc c := nl_dg n _ c h
theorem run_all : ∀ X : List Int32, (∀ c ∈ X, dgc c) → run X = X.length
  | [], _ => rfl
  | x :: X, h => by
    rw [run_d (h x (by simp)), run_all X (fun c hc => h c (by simp [hc])), List.length_cons]
theorem rval_nl (n : Nat) : ∀ b a, rval a (nl n false b) = a * 10 ^ b + n % 10 ^ b
  | 0, a => by simp [nl, rval, Nat.mod_one]
  | b + 1, a => by
    have hd : dgc (dig n b) := nl_dg n (b + 1) (dig n b) (by simp [nl])
    rw [nl]
    simp only [Bool.false_eq_true, false_and, if_false, List.nil_append]
    rw [rval_d hd, rval_nl n b]
    have h10 : n / 10 ^ b % 10 < 10 := Nat.mod_lt _ (by omega)
    have e : (dig n b).toNatClampNeg - 48 = n / 10 ^ b % 10 := by
      unfold dig
      rw [nI_clamp (by omega)]
      omega
    have h1 : n % 10 ^ (b + 1) = n % 10 ^ b + 10 ^ b * (n / 10 ^ b % 10) := by rw [Nat.pow_succ, Nat.mod_mul]
    rw [e, h1, Nat.pow_succ, Nat.add_mul, Nat.mul_comm (n / 10 ^ b % 10) (10 ^ b), Nat.mul_assoc, Nat.mul_comm 10 (10 ^ b)]
    omega
theorem numL_len (n : Nat) : (numL n false).length = nd n := nl_f n _
theorem pn_numL {n : Nat} (h : n ≤ 99999) : pn (numL n false) = some n := by
  have h1 := nd_1 n
  have h5 : nd n ≤ 5 := nd_k (by omega) (by omega)
  have hr := run_all (numL n false) (fun c => numL_dg)
  have hc : (numL n false).length = 1 ∨ ¬ (numL n false).getD 0 0 = 48 := by
    rw [numL_len]
    rcases nd_low n with e | ⟨e, e2⟩
    · exact Or.inl e
    · refine Or.inr ?_
      unfold numL
      obtain ⟨k, hk⟩ : ∃ k, nd n = k + 1 := ⟨nd n - 1, by omega⟩
      have hh := nd_high h
      rw [hk] at e2 hh ⊢
      rw [show k + 1 - 1 = k by omega] at e2
      rw [Nat.pow_succ] at hh
      have q1 : n / 10 ^ k < 10 := Nat.div_lt_of_lt_mul hh
      have q2 : 0 < n / 10 ^ k := Nat.div_pos e2 (Nat.pow_pos (by omega))
      rw [nl]
      show ¬ dig n k = 48
      unfold dig
      rw [Nat.mod_eq_of_lt q1]
      exact fun q => by
        have := (nI_eq (a := 48 + n / 10 ^ k) (b := 48) (by omega) (by omega)).mp q
        omega
  unfold pn
  rw [if_pos ⟨by rw [numL_len]; omega, hc, hr⟩]
  unfold numL
  rw [rval_nl, Nat.zero_mul, Nat.zero_add, Nat.mod_eq_of_lt (nd_high h)]
theorem pn_some {X : List Int32} {n : Nat} (h : pn X = some n) : X = numL n false ∧ n ≤ 99999 := by
  unfold pn at h
  by_cases c : (1 ≤ X.length ∧ X.length ≤ 5) ∧ (X.length = 1 ∨ ¬ X.getD 0 0 = 48) ∧ run X = X.length
  · rw [if_pos c, Option.some.injEq] at h
    obtain ⟨⟨c1, c2⟩, c3, c4⟩ := c
    have hlt := rval_lt0 c4
    have h5 : (10 : Nat) ^ X.length ≤ 10 ^ 5 := Nat.pow_le_pow_right (by omega) c2
    have h9 : n ≤ 99999 := by
      rw [← h]
      have : (10 : Nat) ^ 5 = 100000 := by decide
      omega
    refine ⟨?_, h9⟩
    have hnd : nd n = X.length := by
      refine nd_eq c1 h9 (by rw [← h]; exact hlt) ?_
      rcases c3 with e | e
      · exact Or.inl e
      · right
        match X, c4, e, h with
        | [], c4, e, h => simp at c1
        | x :: X, c4, e, h =>
          obtain ⟨d1, d2⟩ := run_tl c4
          obtain ⟨d, hd, e1, e2⟩ := dgc_n d1
          rw [rval_d d1, e2, rval_add, d2] at h
          have hd0 : ¬ d = 0 := fun q => e (by rw [q] at e1; exact e1)
          rw [List.length_cons, show X.length + 1 - 1 = X.length by omega, ← h]
          have : 1 * 10 ^ X.length ≤ (0 * 10 + (48 + d - 48)) * 10 ^ X.length := Nat.mul_le_mul_right _ (by omega)
          omega
    unfold numL
    rw [hnd, ← h]
    exact (nl_rv X 0 c4).symm
  · rw [if_neg c] at h
    exact absurd h (by simp)
theorem dgc_ne {c x : Int32} (h : dgc c) (hx : x < 48) : ¬ c = x := fun e => by rw [e] at h; exact h.1 hx
theorem dgc_n61 {c : Int32} (h : dgc c) : ¬ c = 61 := fun e => by rw [e] at h; exact absurd h.2 (by decide)
/-! names as they are written -/
def spl (s : AS) (m : Nat) : List Int32 := upL (nmf s m) (dpt s m)
theorem upL_dg {U : Nat → Nat} : ∀ j, ∀ c ∈ upL U j, dgc c ∨ c = 46
  | 0, c, h => absurd h (by simp [upL])
  | j + 1, c, h => by
    rw [upL, List.mem_append, List.mem_append] at h
    rcases h with h | h | h
    · exact Or.inl (numL_dg h)
    · by_cases q : 0 < j
      · rw [if_pos q, List.mem_singleton] at h
        exact Or.inr h
      · rw [if_neg q] at h
        exact absurd h (by simp)
    · exact upL_dg j c h
theorem upL_snoc {U : Nat → Nat} : ∀ d, 0 < d → upL U (d + 1) = upL (fun k => U (k + 1)) d ++ 46 :: numL (U 0) false
  | 0, h => by omega
  | 1, _ => by simp [upL]
  | d + 2, _ => by
    have := upL_snoc (U := U) (d + 1) (by omega)
    show numL (U (d + 2)) false ++ ((if 0 < d + 2 then [46] else []) ++ upL U (d + 1 + 1)) = (numL (U (d + 1 + 1)) false ++ ((if 0 < d + 1 then [46] else []) ++ upL (fun k => U (k + 1)) (d + 1))) ++ 46 :: numL (U 0) false
    rw [this, if_pos (show 0 < d + 2 by omega), if_pos (show 0 < d + 1 by omega)]
    simp [List.append_assoc]
theorem upL_q {U V : Nat → Nat} : ∀ d, (∀ k, k < d → U k = V k) → upL U d = upL V d
  | 0, _ => rfl
  | d + 1, h => by rw [upL, upL, h d (by omega), upL_q d (fun k hk => h k (by omega))]
theorem dpf_st {s : AS} (hI : Inv s) : ∀ w m, m < w → m < s.2.2.2 → dpf s (w + 1) m = dpf s w m := by
  intro w
  have hn := hI.n40
  induction w with
  | zero => intro m h; omega
  | succ w ih =>
    intro m hw hm
    show (if s.1 m 2 = -1 then 1 else dpf s (w + 1) (s.1 m 2).toNatClampNeg + 1) = (if s.1 m 2 = -1 then 1 else dpf s w (s.1 m 2).toNatClampNeg + 1)
    rcases hI.par hm with e | ⟨p, hp, e, _⟩
    · rw [if_pos e, if_pos e]
    · have hne : ¬ s.1 m 2 = -1 := by rw [e]; exact nI_nm1 (show p < 2 ^ 31 by omega)
      rw [if_neg hne, if_neg hne, e, nI_clamp (show p < 2 ^ 31 by omega), ih p (by omega) (by omega)]
theorem spl_root {s : AS} (hI : Inv s) {r x : Nat} (hr : r < s.2.2.2) (hx : x < 2 ^ 31) (h3 : s.1 r 3 = nI x) (h2 : s.1 r 2 = -1) : spl s r = numL x false := by
  unfold spl dpt
  rw [show (40 : Nat) = 39 + 1 from rfl, dpf, if_pos h2]
  show numL (nmf s r 0) false ++ ((if 0 < 0 then [46] else []) ++ []) = _
  have : nmf s r 0 = x := by
    unfold nmf anc
    rw [h3, nI_clamp hx]
  rw [this]
  simp
theorem spl_kid {s : AS} (hI : Inv s) {r x p : Nat} (hr : r < s.2.2.2) (hx : x < 2 ^ 31) (h3 : s.1 r 3 = nI x) (h2 : s.1 r 2 = nI p) (hp : p < r) : spl s r = spl s p ++ 46 :: numL x false := by
  have hn := hI.n40
  have hd := (hI.DP (show p < s.2.2.2 by omega)).2.2.1
  have e1 : dpt s r = dpt s p + 1 := by
    unfold dpt
    rw [show dpf s 40 r = dpf s 39 p + 1 from by rw [show (40 : Nat) = 39 + 1 from rfl, dpf, if_neg (by rw [h2]; exact nI_nm1 (by omega)), h2, nI_clamp (by omega)], dpf_st hI 39 p (by omega) (by omega)]
  unfold spl
  rw [e1, upL_snoc _ hd]
  have : nmf s r 0 = x := by
    unfold nmf anc
    rw [h3, nI_clamp hx]
  rw [this]
  congr 1
  apply upL_q
  intro k hk
  unfold nmf
  rw [anc_s, h2, nI_clamp (by omega)]
theorem spl_q {s t : AS} (h : t.1 = s.1) (m : Nat) : spl t m = spl s m := by
  unfold spl
  rw [dpt_q h]
  apply upL_q
  intro k _
  unfold nmf
  rw [anc_q h, h]
theorem spl_same {s : AS} (hI : Inv s) : ∀ w a b, a < w → a < s.2.2.2 → b < s.2.2.2 → s.1 a 4 = s.1 b 4 → spl s a = spl s b := by
  intro w
  have hn := hI.n40
  induction w with
  | zero => intro a b h; omega
  | succ w ih =>
    intro a b hw ha hb e
    obtain ⟨e3, e4⟩ := (hI.can ha hb).mp e
    obtain ⟨x, hx, ex⟩ := hI.name ha
    rw [pfv_pf, pfv_pf] at e4
    rcases hI.par ha with pa | ⟨p, hp, pa, _⟩
    · rcases hI.par hb with pb | ⟨q, hq, pb, _⟩
      · rw [spl_root hI ha (by omega) ex pa, spl_root (x := x) hI hb (by omega) (by rw [← e3]; exact ex) pb]
      · rw [pa, pb, pfv_m1, pfv_n s (show q < 2 ^ 31 by omega)] at e4
        exact absurd e4.symm (fst_nm1 hI (show q < s.2.2.2 by omega))
    · rcases hI.par hb with pb | ⟨q, hq, pb, _⟩
      · rw [pa, pb, pfv_m1, pfv_n s (show p < 2 ^ 31 by omega)] at e4
        exact absurd e4 (fst_nm1 hI (show p < s.2.2.2 by omega))
      · rw [pa, pb, pfv_n s (show p < 2 ^ 31 by omega), pfv_n s (show q < 2 ^ 31 by omega)] at e4
        rw [spl_kid hI ha (by omega) ex pa hp, spl_kid (x := x) hI hb (by omega) (by rw [← e3]; exact ex) pb hq, ih p q (by omega) (by omega) (by omega) e4]
/-- what a name's look-up finds is the first of its full name -/
theorem lkp_at {s : AS} (hI : Inv s) {pv nm : Int32} {i : Nat} (hi : i < s.2.2.2) (h : nmP s pv nm i) : lkp (nmP s pv nm) s.2.2.2 0 = s.1 i 4 := by
  have hn := hI.n40
  rcases lkp_spec (nmP s pv nm) s.2.2.2 0 with ⟨_, h2⟩ | ⟨r, _, h2, h3, h4, h5⟩
  · exact absurd h (h2 i (by omega) (by omega))
  · have hr : r < s.2.2.2 := by omega
    have e := (hI.can hr hi).mpr ⟨h3.1.trans h.1.symm, h3.2.trans h.2.symm⟩
    obtain ⟨f, f1, f2, f3, f4⟩ := hI.fst hr
    have hf : f < s.2.2.2 := by omega
    have e2 := (hI.can hr hf).mp (by rw [f2, f3])
    have : ¬ f < r := fun q => h4 f (by omega) q ⟨e2.1.symm.trans h3.1, e2.2.symm.trans h3.2⟩
    obtain rfl : f = r := by omega
    rw [h5, ← e, f2]
theorem lkp_in {s : AS} (hI : Inv s) {pv nm : Int32} (h : ¬ lkp (nmP s pv nm) s.2.2.2 0 = -1) : ∃ r, r < s.2.2.2 ∧ lkp (nmP s pv nm) s.2.2.2 0 = nI r ∧ s.1 r 4 = nI r ∧ s.1 r 3 = nm ∧ pf s r = pv := by
  rcases lkp_spec (nmP s pv nm) s.2.2.2 0 with ⟨h1, _⟩ | ⟨r, _, h2, h3, h4, h5⟩
  · exact absurd h1 h
  · have hr : r < s.2.2.2 := by omega
    refine ⟨r, hr, h5, ?_, h3.1, h3.2⟩
    rw [← lkp_at hI hr h3, h5]
