theorem i_view {N h : Nat} (G : HF) : DX7_init N (h + 243) (hup G (h + 243) (.inr (6, [.null]))) (h + 244) = some (fil G h 243 246, h + 246) := by
  have m0 : mk h σ0 243 = some (.inr (6, [.ref (h + 244)])) := rfl
  unfold DX7_init
  rw [Tt_0 G h 243]
  simp only [Option.bind_some, Tt_p, List.length_cons, List.length_nil, Nat.reduceAdd, Nat.reduceLT, List.set_cons_zero, List.set_cons_succ, Nat.add_assoc]
  rw [i_row _ (k := 244) (k1 := 245) (k2 := 246) (c := 30) rfl rfl rfl rfl rfl (by omega) (by decide), Tt_f (by omega) (by omega)]
  simp only [Option.bind_some, Tt_p, List.length_cons, List.length_nil, Nat.reduceAdd, Nat.reduceLT, List.set_cons_zero, List.set_cons_succ, Nat.add_assoc]
  rw [Tt_c (by omega) m0]
theorem i_calc {N h : Nat} (G : HF) : DX1_init N (h + 246) (h + 1) (hup G (h + 246) (.inr (0, [.null, .null, .null, .null, .null]))) (h + 247) = some (fil G h 246 253, h + 253) := by
  have m0 : mk h σ0 246 = some (.inr (0, [.ref (h + 1), .ref (h + 247), .ref (h + 248), .ref (h + 249), .ref (h + 251)])) := rfl
  have m1 : mk h σ0 247 = some (.inl (1, (40, .inr (.inl (fun _ => 0))))) := rfl
  have m2 : mk h σ0 248 = some (.inl (1, (40, .inr (.inl (fun _ => 0))))) := rfl
  unfold DX1_init
  rw [Tt_0 G h 246]
  simp only [Nat.add_assoc, Nat.reduceAdd]
  rw [Tt_a (by omega) m1]
  simp only [Option.bind_some, Tt_p, List.length_cons, List.length_nil, Nat.reduceAdd, Nat.reduceLT, List.set_cons_zero, List.set_cons_succ, Nat.add_assoc]
  rw [Tt_a (by omega) m2]
  simp only [Option.bind_some, Tt_p, List.length_cons, List.length_nil, Nat.reduceAdd, Nat.reduceLT, List.set_cons_zero, List.set_cons_succ, Nat.add_assoc]
  rw [i_row _ (k := 249) (k1 := 250) (k2 := 251) (c := 14) rfl rfl rfl rfl rfl (by omega) (by decide), Tt_f (by omega) (by omega)]
  simp only [Option.bind_some, Tt_p, List.length_cons, List.length_nil, Nat.reduceAdd, Nat.reduceLT, List.set_cons_zero, List.set_cons_succ, Nat.add_assoc]
  rw [i_row _ (k := 251) (k1 := 252) (k2 := 253) (c := 40) rfl rfl rfl rfl rfl (by omega) (by decide), Tt_f (by omega) (by omega)]
  simp only [Option.bind_some, Tt_p, List.length_cons, List.length_nil, Nat.reduceAdd, Nat.reduceLT, List.set_cons_zero, List.set_cons_succ, Nat.add_assoc]
  rw [Tt_c (by omega) m0]
theorem i_writer {N h : Nat} (G : HF) : DX8_init N (h + 253) (h + 1) (hup G (h + 253) (.inr (7, [.null, .null, .null]))) (h + 254) = some (fil G h 253 258, h + 258) := by
  have m0 : mk h σ0 253 = some (.inr (7, [.ref (h + 1), .ref (h + 254), .ref (h + 256)])) := rfl
  unfold DX8_init
  rw [Tt_0 G h 253]
  simp only [Option.bind_some, Tt_p, List.length_cons, List.length_nil, Nat.reduceAdd, Nat.reduceLT, List.set_cons_zero, List.set_cons_succ, Nat.add_assoc]
  rw [i_row _ (k := 254) (k1 := 255) (k2 := 256) (c := 2400) rfl rfl rfl rfl rfl (by omega) (by decide), Tt_f (by omega) (by omega)]
  simp only [Option.bind_some, Tt_p, List.length_cons, List.length_nil, Nat.reduceAdd, Nat.reduceLT, List.set_cons_zero, List.set_cons_succ, Nat.add_assoc]
  rw [i_row _ (k := 256) (k1 := 257) (k2 := 258) (c := 40) rfl rfl rfl rfl rfl (by omega) (by decide), Tt_f (by omega) (by omega)]
  simp only [Option.bind_some, Tt_p, List.length_cons, List.length_nil, Nat.reduceAdd, Nat.reduceLT, List.set_cons_zero, List.set_cons_succ, Nat.add_assoc]
  rw [Tt_c (by omega) m0]
theorem i_reader {N h : Nat} (G : HF) : DX4_init N (h + 258) (h + 1) (hup G (h + 258) (.inr (3, [.null, .null]))) (h + 259) = some (fil G h 258 261, h + 261) := by
  have m0 : mk h σ0 258 = some (.inr (3, [.ref (h + 1), .ref (h + 259)])) := rfl
  unfold DX4_init
  rw [Tt_0 G h 258]
  simp only [Option.bind_some, Tt_p, List.length_cons, List.length_nil, Nat.reduceAdd, Nat.reduceLT, List.set_cons_zero, List.set_cons_succ, Nat.add_assoc]
  rw [i_row _ (k := 259) (k1 := 260) (k2 := 261) (c := 3000) rfl rfl rfl rfl rfl (by omega) (by decide), Tt_f (by omega) (by omega)]
  simp only [Option.bind_some, Tt_p, List.length_cons, List.length_nil, Nat.reduceAdd, Nat.reduceLT, List.set_cons_zero, List.set_cons_succ, Nat.add_assoc]
  rw [Tt_c (by omega) m0]
theorem i_marks {N h k c : Nat} {p0 : Int32} (G : HF) (hc : c ≤ 400) (hp : mxI p0 0 = nI c) (m0 : mk h σ0 k = some (.inr (2, [.ref (h + (k + 1)), .int (nI c), .int 0]))) (m1 : mk h σ0 (k + 1) = some (.inl (4, (5, .inr (.inr (.inr (.inr (fun i => if i < 5 then some (h + (k + 1 + 1 + i)) else none)))))))) (m2 : ∀ i, i < 5 → mk h σ0 (k + 2 + i) = some (.inl (0, (c, .inl (fun _ => 0))))) : DX3_init N (h + k) p0 (hup G (h + k) (.inr (2, [.null, .int 0, .int 0]))) (h + (k + 1)) = some (fil G h k (k + 7), h + (k + 7)) := by
  have hmna : ∀ fs, mna (Tt G h k (k + 1) 2 fs) (h + (k + 1)) 5 c = Tt G h k (k + 7) 2 fs := fun fs => by
    funext q
    unfold mna Tt fil
    by_cases e : q = h + (k + 1)
    · rw [if_pos e, if_pos (by omega), e, Nat.add_sub_cancel_left, m1]
      simp only [Nat.add_assoc]
    · rw [if_neg e]
      by_cases e2 : h + (k + 1) < q ∧ q < h + (k + 1) + 1 + 5
      · have := m2 (q - (h + (k + 2))) (by omega)
        rw [if_pos e2, if_pos (by omega), show q - h = k + 2 + (q - (h + (k + 2))) by omega, this]
      · rw [if_neg e2, if_neg (by omega), if_neg (by omega)]
  unfold DX3_init
  rw [Tt_0]
  simp only [Option.bind_some, Tt_p, gI, Tt_g, List.length_cons, List.length_nil, Nat.reduceAdd, Nat.reduceLT, List.set_cons_zero, List.set_cons_succ, hp, List.getElem?_cons_succ, List.getElem?_cons_zero, nI_clamp (show c < 2 ^ 31 by omega), hmna]
  rw [if_pos ⟨nI_pos (by omega), hc⟩, Tt_c (by omega) m0]
  simp only [Nat.add_assoc, Nat.reduceAdd]
theorem i_form {N h : Nat} (hN : 10000 ≤ N) (G : HF) : DX9_init N (h + 0) (hup G (h + 0) (.inr (8, [.null, .null, .null, .null, .null, .null, .null]))) (h + 1) = some (fil G h 0 275, h + 275) := by
  have m0 : mk h σ0 0 = some (.inr (8, [.ref (h + 1), .ref (h + 243), .ref (h + 246), .ref (h + 253), .ref (h + 258), .ref (h + 261), .ref (h + 268)])) := rfl
  unfold DX9_init
  rw [Tt_0 G h 0]
  simp only [Nat.add_assoc, Nat.reduceAdd, Option.bind_some]
  rw [i_tree hN, Tt_f (by omega) (by omega)]
  simp only [Option.bind_some, Tt_p, Tt_gR, List.length_cons, List.length_nil, Nat.reduceAdd, Nat.reduceLT, List.set_cons_zero, List.set_cons_succ, List.getElem?_cons_succ, List.getElem?_cons_zero, Nat.add_assoc]
  rw [i_view, Tt_f (by omega) (by omega)]
  simp only [Option.bind_some, Tt_p, Tt_gR, List.length_cons, List.length_nil, Nat.reduceAdd, Nat.reduceLT, List.set_cons_zero, List.set_cons_succ, List.getElem?_cons_succ, List.getElem?_cons_zero, Nat.add_assoc]
  rw [gR_h (h := h) (k := 0) (b := 246) (by decide)]
  simp only [Option.bind_some, Tt_p, Tt_gR, List.length_cons, List.length_nil, Nat.reduceAdd, Nat.reduceLT, List.set_cons_zero, List.set_cons_succ, List.getElem?_cons_succ, List.getElem?_cons_zero, Nat.add_assoc]
  rw [i_calc, Tt_f (by omega) (by omega)]
  simp only [Option.bind_some, Tt_p, Tt_gR, List.length_cons, List.length_nil, Nat.reduceAdd, Nat.reduceLT, List.set_cons_zero, List.set_cons_succ, List.getElem?_cons_succ, List.getElem?_cons_zero, Nat.add_assoc]
  rw [gR_h (h := h) (k := 0) (b := 253) (by decide)]
  simp only [Option.bind_some, Tt_p, Tt_gR, List.length_cons, List.length_nil, Nat.reduceAdd, Nat.reduceLT, List.set_cons_zero, List.set_cons_succ, List.getElem?_cons_succ, List.getElem?_cons_zero, Nat.add_assoc]
  rw [i_writer, Tt_f (by omega) (by omega)]
  simp only [Option.bind_some, Tt_p, Tt_gR, List.length_cons, List.length_nil, Nat.reduceAdd, Nat.reduceLT, List.set_cons_zero, List.set_cons_succ, List.getElem?_cons_succ, List.getElem?_cons_zero, Nat.add_assoc]
  rw [gR_h (h := h) (k := 0) (b := 258) (by decide)]
  simp only [Option.bind_some, Tt_p, Tt_gR, List.length_cons, List.length_nil, Nat.reduceAdd, Nat.reduceLT, List.set_cons_zero, List.set_cons_succ, List.getElem?_cons_succ, List.getElem?_cons_zero, Nat.add_assoc]
  rw [i_reader, Tt_f (by omega) (by omega)]
  simp only [Option.bind_some, Tt_p, Tt_gR, List.length_cons, List.length_nil, Nat.reduceAdd, Nat.reduceLT, List.set_cons_zero, List.set_cons_succ, List.getElem?_cons_succ, List.getElem?_cons_zero, Nat.add_assoc]
  rw [i_marks (k := 261) (c := 31) _ (by omega) (by decide) rfl rfl (fun i hi => by rcases (show i = 0 ∨ i = 1 ∨ i = 2 ∨ i = 3 ∨ i = 4 by omega) with q | q | q | q | q <;> subst q <;> rfl), Tt_f (by omega) (by omega)]
  simp only [Option.bind_some, Tt_p, Tt_gR, List.length_cons, List.length_nil, Nat.reduceAdd, Nat.reduceLT, List.set_cons_zero, List.set_cons_succ, List.getElem?_cons_succ, List.getElem?_cons_zero, Nat.add_assoc]
  rw [i_marks (k := 268) (c := 400) _ (by omega) (by decide) rfl rfl (fun i hi => by rcases (show i = 0 ∨ i = 1 ∨ i = 2 ∨ i = 3 ∨ i = 4 by omega) with q | q | q | q | q <;> subst q <;> rfl), Tt_f (by omega) (by omega)]
  simp only [Option.bind_some, Tt_p, Tt_gR, List.length_cons, List.length_nil, Nat.reduceAdd, Nat.reduceLT, List.set_cons_zero, List.set_cons_succ, List.getElem?_cons_succ, List.getElem?_cons_zero, Nat.add_assoc]
  rw [Tt_c (by omega) m0]
