/-! THE CONSTRUCTORS -/
def σ0 : SG := (fun k j => if kd k = 1 ∧ j = 13 then -1 else if k = 261 ∧ j = 1 then 31 else if k = 268 ∧ j = 1 then 400 else 0, fun _ j => if j = 11 then -999999999999 else if j = 12 then 999999999999 else 0, fun _ _ => 0, fun _ _ => 0)
def fil (G : HF) (h a b : Nat) : HF := fun q => if h + a ≤ q ∧ q < h + b then mk h σ0 (q - h) else G q
def Tt (G : HF) (h k b ci : Nat) (fs : List Value) : HF := fil (hup G (h + k) (.inr (ci, fs))) h (k + 1) b
theorem fil_nil (G : HF) (h a : Nat) : fil G h a a = G := by
  funext q
  unfold fil
  rw [if_neg (by omega)]
theorem fil_fil {G : HF} {h a b c : Nat} (h1 : a ≤ b) (h2 : b ≤ c) : fil (fil G h a b) h b c = fil G h a c := by
  funext q
  unfold fil
  by_cases e1 : h + b ≤ q ∧ q < h + c
  · rw [if_pos e1, if_pos (by omega)]
  · rw [if_neg e1]
    by_cases e2 : h + a ≤ q ∧ q < h + b
    · rw [if_pos e2, if_pos (by omega)]
    · rw [if_neg e2, if_neg (by omega)]
theorem fil_up {G : HF} {h a b : Nat} {o : Ob} (h1 : a ≤ b) (ho : mk h σ0 b = some o) : hup (fil G h a b) (h + b) o = fil G h a (b + 1) := by
  funext q
  unfold hup fil
  by_cases e : q = h + b
  · rw [if_pos e, if_pos (by omega), e, Nat.add_sub_cancel_left, ho]
  · rw [if_neg e]
    by_cases e2 : h + a ≤ q ∧ q < h + b
    · rw [if_pos e2, if_pos (by omega)]
    · rw [if_neg e2, if_neg (by omega)]
theorem Tt_0 (G : HF) (h k ci : Nat) (fs : List Value) : hup G (h + k) (.inr (ci, fs)) = Tt G h k (k + 1) ci fs := (fil_nil _ _ _).symm
theorem Tt_a {G : HF} {h k b ci : Nat} {fs : List Value} {o : Ob} (hb : k + 1 ≤ b) (ho : mk h σ0 b = some o) : hup (Tt G h k b ci fs) (h + b) o = Tt G h k (b + 1) ci fs := fil_up hb ho
theorem Tt_at (G : HF) (h k b ci : Nat) (fs : List Value) : Tt G h k b ci fs (h + k) = some (.inr (ci, fs)) := by
  simp only [Tt, fil, hup]
  rw [if_neg (by omega), if_pos trivial]
theorem Tt_set (G : HF) (h k b ci : Nat) (fs fs' : List Value) : hup (Tt G h k b ci fs) (h + k) (.inr (ci, fs')) = Tt G h k b ci fs' := by
  funext q
  simp only [Tt, fil, hup]
  by_cases e : q = h + k
  · rw [if_pos e, if_neg (by omega), if_pos e]
  · rw [if_neg e]
    by_cases e2 : h + (k + 1) ≤ q ∧ q < h + b
    · rw [if_pos e2, if_pos e2]
    · rw [if_neg e2, if_neg e2, if_neg e, if_neg e]
theorem Tt_p {G : HF} {h k b ci j : Nat} {fs : List Value} {v : Value} (hj : j < fs.length) : pV (Tt G h k b ci fs) (h + k) ci j v = some (Tt G h k b ci (fs.set j v)) := by
  unfold pV
  rw [Tt_at]
  simp only [hj, and_self, if_true]
  rw [Tt_set]
theorem Tt_g {G : HF} {h k b ci j : Nat} {fs : List Value} : gV (Tt G h k b ci fs) (h + k) ci j = fs[j]? := by
  unfold gV
  rw [Tt_at]
  simp only [if_true]
theorem Tt_gR {G : HF} {h k b ci j : Nat} {fs : List Value} : gR (Tt G h k b ci fs) (h + k) ci j = (match fs[j]? with | some (.ref x) => some x | _ => none) := by
  unfold gR
  rw [Tt_g]
  rfl
theorem gR_h {f : HF} {h k b ci j : Nat} {o : Ob} (hb : k ≠ b) : gR (hup f (h + b) o) (h + k) ci j = gR f (h + k) ci j := by
  unfold gR gV hup
  rw [if_neg (by omega)]
theorem Tt_f {G : HF} {h k b c ci : Nat} {fs : List Value} (h1 : k + 1 ≤ b) (h2 : b ≤ c) : fil (Tt G h k b ci fs) h b c = Tt G h k c ci fs := fil_fil h1 h2
theorem Tt_c {G : HF} {h k b ci : Nat} {fs : List Value} (h1 : k + 1 ≤ b) (ho : mk h σ0 k = some (.inr (ci, fs))) : Tt G h k b ci fs = fil G h k b := by
  funext q
  simp only [Tt, fil, hup]
  by_cases e : h + (k + 1) ≤ q ∧ q < h + b
  · rw [if_pos e, if_pos (by omega)]
  · rw [if_neg e]
    by_cases e2 : q = h + k
    · rw [if_pos e2, if_pos (by omega), e2, Nat.add_sub_cancel_left, ho]
    · rw [if_neg e2, if_neg (by omega)]
theorem s0_row {k : Nat} (hk : kd k = 4) : σ0.1 k 1 = 0 := by
  unfold σ0
  simp only [hk]
  have h1 : ¬ (k = 261 ∧ True) := fun q => by rw [q.1] at hk; exact absurd hk (by decide)
  have h2 : ¬ (k = 268 ∧ True) := fun q => by rw [q.1] at hk; exact absurd hk (by decide)
  simp at h1 h2
  simp [h1, h2]
theorem i_row {N h k k1 k2 c : Nat} {p0 : Int32} (G : HF) (e1 : k1 = k + 1) (e2 : k2 = k + 2) (hk : kd k = 4) (hk1 : kd k1 = 10) (hl : ln k1 = c) (hc : c ≤ 3000) (hp : mxI p0 0 = nI c) : DX5_init N (h + k) p0 (hup G (h + k) (.inr (4, [.null, .int 0]))) (h + k1) = some (fil G h k k2, h + k2) := by
  subst e1
  subst e2
  have m0 : mk h σ0 k = some (.inr (4, [.ref (h + (k + 1)), .int 0])) := by
    simp only [mk, hk, s0_row hk]
  have m1 : mk h σ0 (k + 1) = some (.inl (0, (c, .inl (fun _ => 0)))) := by
    simp only [mk, hk1, hl]
    rfl
  unfold DX5_init
  rw [hp, if_pos ⟨nI_pos (by omega), by rw [nI_clamp (by omega)]; exact hc⟩, nI_clamp (by omega), Tt_0, Tt_a (Nat.le_refl _) m1]
  simp only [Option.bind_some, Tt_p, List.length_cons, List.length_nil, Nat.reduceAdd, Nat.reduceLT, List.set_cons_zero, List.set_cons_succ, Nat.add_assoc]
  rw [Tt_c (by omega) m0]
theorem i_field {N h k : Nat} (G : HF) (h0 : kd k = 1) (h1 : kd (k + 1) = 10) (l1 : ln (k + 1) = 8) (h2 : kd (k + 2) = 4) (h3 : kd (k + 3) = 10) (l3 : ln (k + 3) = 30) (h4 : kd (k + 4) = 4) (h5 : kd (k + 5) = 10) (l5 : ln (k + 5) = 12) : DX2_init N (h + k) (hup G (h + k) (.inr (1, [.int 0, .int 0, .int 0, .int 0, .int 0, .int 0, .int 0, .null, .null, .null, .int 0, .long 0, .long 0, .int 0, .int 0, .int 0, .int 0]))) (h + (k + 1)) = some (fil G h k (k + 6), h + (k + 6)) := by
  have m0 : mk h σ0 k = some (.inr (1, [.int 0, .int 0, .int 0, .int 0, .int 0, .int 0, .int 0, .ref (h + (k + 1)), .ref (h + (k + 2)), .ref (h + (k + 4)), .int 0, .long (-999999999999), .long 999999999999, .int (-1), .int 0, .int 0, .int 0])) := by
    have a : ¬ k = 261 := fun q => by rw [q] at h0; exact absurd h0 (by decide)
    have b : ¬ k = 268 := fun q => by rw [q] at h0; exact absurd h0 (by decide)
    simp only [mk, h0]
    simp [σ0, h0, a, b]
  have m1 : mk h σ0 (k + 1) = some (.inl (0, (8, .inl (fun _ => 0)))) := by
    simp only [mk, h1, l1]
    rfl
  unfold DX2_init
  rw [Tt_0]
  simp only [Nat.add_assoc, Nat.reduceAdd]
  rw [Tt_a (Nat.le_refl _) m1]
  simp only [Option.bind_some, Tt_p, List.length_cons, List.length_nil, Nat.reduceAdd, Nat.reduceLT, List.set_cons_zero, List.set_cons_succ, Nat.add_assoc]
  rw [i_row _ (k1 := k + 3) (k2 := k + 4) (c := 30) rfl rfl h2 h3 l3 (by omega) (by decide), Tt_f (by omega) (by omega)]
  simp only [Option.bind_some, Tt_p, List.length_cons, List.length_nil, Nat.reduceAdd, Nat.reduceLT, List.set_cons_zero, List.set_cons_succ, Nat.add_assoc]
  rw [i_row _ (k1 := k + 5) (k2 := k + 6) (c := 12) rfl rfl h4 h5 l5 (by omega) (by decide), Tt_f (by omega) (by omega)]
  simp only [Option.bind_some, Tt_p, List.length_cons, List.length_nil, Nat.reduceAdd, Nat.reduceLT, List.set_cons_zero, List.set_cons_succ, Nat.add_assoc]
  rw [Tt_c (by omega) m0]
/-! the tree's fields -/
def Wt (G : HF) (h i : Nat) : HF := fil (hup (hup G (h + 1) (.inr (5, [.ref (h + 2), .int 0]))) (h + 2) (.inl (3, (40, .inr (.inr (.inr (.inr (fun j => if j < i then some (h + (3 + 6 * j)) else none)))))))) h 3 (3 + 6 * i)
theorem Wt_1 (G : HF) (h i : Nat) : Wt G h i (h + 1) = some (.inr (5, [.ref (h + 2), .int 0])) := by
  unfold Wt fil hup
  rw [if_neg (by omega), if_neg (by omega), if_pos rfl]
theorem Wt_2 (G : HF) (h i : Nat) : Wt G h i (h + 2) = some (.inl (3, (40, .inr (.inr (.inr (.inr (fun j => if j < i then some (h + (3 + 6 * j)) else none))))))) := by
  unfold Wt fil hup
  rw [if_neg (by omega), if_pos rfl]
theorem va_upE {z : Nat → Option Nat} {i : Nat} {v : Option Nat} (j : Nat) : va_up z i v j = if j = i then v else z j := by
  unfold va_up
  rfl
theorem i_tree15 {N h : Nat} (G : HF) : ∀ (w i : Nat), 40 - i < w → i ≤ 40 → DX6_init_15 N w (h + 1) (nI i) (Wt G h i) (h + (3 + 6 * i)) (1 + 6 * i) (40 + 6029 * i) = some (Wt G h 40, h + 243) := by
  intro w
  induction w with
  | zero => intro i hw; omega
  | succ w ih =>
    intro i hw hi
    rw [DX6_init_15]
    have r1 : gR (Wt G h i) (h + 1) 5 0 = some (h + 2) := by simp [gR, gV, Wt_1]
    have r2 : aLen (Wt G h i) (h + 2) 3 = some (nI 40) := by simp [aLen, Wt_2]
    simp only [r1, r2, Option.bind_some]
    by_cases z : 40 ≤ i
    · obtain rfl : i = 40 := by omega
      rw [if_pos (nI_le z (by omega)), if_pos (by omega)]
    · have hlt : i < 40 := by omega
      rw [if_neg (nI_ge hlt (by omega)), if_pos (by omega)]
      rw [show h + (3 + 6 * i) + 1 = h + (3 + 6 * i + 1) by omega, i_field (Wt G h i) (kd_F hlt) (kd_T hlt) (ln_T hlt) (kd_S hlt) (kd_S1 hlt) (ln_S hlt) (kd_C hlt) (kd_C1 hlt) (ln_C hlt)]
      simp only [Option.bind_some]
      have hf : fil (Wt G h i) h (3 + 6 * i) (3 + 6 * i + 6) = fil (hup (hup G (h + 1) (.inr (5, [.ref (h + 2), .int 0]))) (h + 2) (.inl (3, (40, .inr (.inr (.inr (.inr (fun j => if j < i then some (h + (3 + 6 * j)) else none)))))))) h 3 (3 + 6 * (i + 1)) := by
        unfold Wt
        rw [fil_fil (by omega) (by omega), show 3 + 6 * i + 6 = 3 + 6 * (i + 1) by omega]
      have hck : ck (fil (Wt G h i) h (3 + 6 * i) (3 + 6 * i + 6)) (h + (3 + 6 * i)) 1 = some () := by
        unfold ck fil
        rw [if_pos (by omega), Nat.add_sub_cancel_left]
        simp [mk, kd_F hlt]
      have h2 : fil (Wt G h i) h (3 + 6 * i) (3 + 6 * i + 6) (h + 2) = some (.inl (3, (40, .inr (.inr (.inr (.inr (fun j => if j < i then some (h + (3 + 6 * j)) else none))))))) := by
        unfold fil
        rw [if_neg (by omega), Wt_2]
      have hs : sR (fil (Wt G h i) h (3 + 6 * i) (3 + 6 * i + 6)) (h + 2) (nI i) (h + (3 + 6 * i)) = some (Wt G h (i + 1)) := by
        unfold sR
        rw [h2]
        simp only []
        rw [if_pos ⟨trivial, nI_pos (by omega), by rw [nI_clamp (by omega)]; exact hlt⟩, nI_clamp (by omega)]
        congr 1
        rw [hf]
        funext q
        simp only [Wt, fil, hup]
        by_cases e : q = h + 2
        · subst e
          rw [if_pos rfl, if_neg (by omega), if_pos rfl]
          congr 4
          congr 4
          funext j
          rw [va_upE]
          by_cases y : j = i
          · rw [if_pos y, if_pos (by omega), y]
          · rw [if_neg y]
            by_cases y2 : j < i
            · rw [if_pos y2, if_pos (by omega)]
            · rw [if_neg y2, if_neg (by omega)]
        · rw [if_neg e]
          by_cases e2 : h + 3 ≤ q ∧ q < h + (3 + 6 * (i + 1))
          · rw [if_pos e2, if_pos e2]
          · rw [if_neg e2, if_neg e2, if_neg e, if_neg e]
      rw [hck]
      simp only [Option.bind_some]
      rw [hs]
      simp only [Option.bind_some]
      rw [nI_1, show 1 + 6 * i + 6 = 1 + 6 * (i + 1) by omega, show 40 + 6029 * i + 6029 = 40 + 6029 * (i + 1) by omega, show 3 + 6 * i + 6 = 3 + 6 * (i + 1) by omega]
      exact ih (i + 1) (by omega) (by omega)
theorem i_tree {N h : Nat} (hN : 10000 ≤ N) (G : HF) : DX6_init N (h + 1) (hup G (h + 1) (.inr (5, [.null, .int 0]))) (h + 2) = some (fil G h 1 243, h + 243) := by
  have e0 : hup (hup (hup G (h + 1) (.inr (5, [.null, .int 0]))) (h + 2) (.inl (3, (40, .inr (.inr (.inr (.inr (fun _ => none)))))))) (h + 1) (.inr (5, [.ref (h + 2), .int 0])) = Wt G h 0 := by
    funext q
    simp only [Wt, fil, hup]
    rw [if_neg (show ¬ (h + 3 ≤ q ∧ q < h + (3 + 6 * 0)) by omega)]
    by_cases e : q = h + 1
    · rw [if_pos e, if_neg (by omega), if_pos e]
    · rw [if_neg e]
      by_cases e2 : q = h + 2
      · rw [if_pos e2, if_pos e2]
        congr 4
      · rw [if_neg e2, if_neg e2, if_neg e, if_neg e]
  have hp : pV (hup (hup G (h + 1) (.inr (5, [.null, .int 0]))) (h + 2) (.inl (3, (40, .inr (.inr (.inr (.inr (fun _ => none)))))))) (h + 1) 5 0 (.ref (h + 2)) = some (Wt G h 0) := by
    unfold pV
    rw [show (hup (hup G (h + 1) (.inr (5, [.null, .int 0]))) (h + 2) (.inl (3, (40, .inr (.inr (.inr (.inr (fun _ => none)))))))) (h + 1) = some (.inr (5, [.null, .int 0])) from by unfold hup; rw [if_neg (by omega), if_pos rfl]]
    simp only [List.length_cons, List.length_nil, Nat.reduceAdd, Nat.reduceLT, and_self, if_true, List.set_cons_zero]
    rw [e0]
  have h15 := i_tree15 (N := N) (h := h) G N 0 (by omega) (by omega)
  rw [nI_0] at h15
  unfold DX6_init
  simp only [Option.bind_some]
  rw [hp]
  simp only [Option.bind_some]
  refine h15.trans ?_
  congr 1
  congr 1
  funext q
  simp only [Wt, fil, hup]
  by_cases e : h + 3 ≤ q ∧ q < h + (3 + 6 * 40)
  · rw [if_pos e, if_pos (by omega)]
  · rw [if_neg e]
    by_cases e2 : q = h + 2
    · rw [if_pos e2, if_pos (by omega), e2, Nat.add_sub_cancel_left]
      rfl
    · rw [if_neg e2]
      by_cases e3 : q = h + 1
      · rw [if_pos e3, if_pos (by omega), e3, Nat.add_sub_cancel_left]
        rfl
      · rw [if_neg e3, if_neg (by omega)]
