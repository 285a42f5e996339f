/-! the reference's constructor, step by step -/
def rI30 (_ n : Nat) (f : HF) : Option (HF × Nat) := some (f, n)
def rI29 (this n : Nat) (f : HF) : Option (HF × Nat) :=
  (some (hup f n (.inl (0, (3000, .inl (fun _ => 0)))))).bind fun f1 =>
  (pV f1 this 9 36 (.ref n)).bind fun f2 =>
  rI30 this (n + 1) f2
def rI28 (this n : Nat) (f : HF) : Option (HF × Nat) :=
  (some (hup f n (.inl (0, (8000, .inl (fun _ => 0)))))).bind fun f1 =>
  (pV f1 this 9 34 (.ref n)).bind fun f2 =>
  rI29 this (n + 1) f2
def rI27 (this n : Nat) (f : HF) : Option (HF × Nat) :=
  (some (hup f n (.inl (0, (2000, .inl (fun _ => 0)))))).bind fun f1 =>
  (pV f1 this 9 32 (.ref n)).bind fun f2 =>
  rI28 this (n + 1) f2
def rI26 (this n : Nat) (f : HF) : Option (HF × Nat) :=
  (some (hup f n (.inl (0, (160, .inl (fun _ => 0)))))).bind fun f1 =>
  (pV f1 this 9 31 (.ref n)).bind fun f2 =>
  rI27 this (n + 1) f2
def rI25 (this n : Nat) (f : HF) : Option (HF × Nat) :=
  (some (hup f n (.inl (0, (160, .inl (fun _ => 0)))))).bind fun f1 =>
  (pV f1 this 9 29 (.ref n)).bind fun f2 =>
  rI26 this (n + 1) f2
def rI24 (this n : Nat) (f : HF) : Option (HF × Nat) :=
  (some (hup f n (.inl (0, (64, .inl (fun _ => 0)))))).bind fun f1 =>
  (pV f1 this 9 27 (.ref n)).bind fun f2 =>
  rI25 this (n + 1) f2
def rI23 (this n : Nat) (f : HF) : Option (HF × Nat) :=
  (some (hup f n (.inl (0, (40, .inl (fun _ => 0)))))).bind fun f1 =>
  (pV f1 this 9 25 (.ref n)).bind fun f2 =>
  rI24 this (n + 1) f2
def rI22 (this n : Nat) (f : HF) : Option (HF × Nat) :=
  (some (hup f n (.inl (2, (40, .inl (fun _ => 0)))))).bind fun f1 =>
  (pV f1 this 9 24 (.ref n)).bind fun f2 =>
  rI23 this (n + 1) f2
def rI21 (this n : Nat) (f : HF) : Option (HF × Nat) :=
  (some (hup f n (.inl (2, (1600, .inl (fun _ => 0)))))).bind fun f1 =>
  (pV f1 this 9 23 (.ref n)).bind fun f2 =>
  rI22 this (n + 1) f2
def rI20 (this n : Nat) (f : HF) : Option (HF × Nat) :=
  (some (hup f n (.inl (2, (40, .inl (fun _ => 0)))))).bind fun f1 =>
  (pV f1 this 9 22 (.ref n)).bind fun f2 =>
  rI21 this (n + 1) f2
def rI19 (this n : Nat) (f : HF) : Option (HF × Nat) :=
  (some (hup f n (.inl (2, (40, .inl (fun _ => 0)))))).bind fun f1 =>
  (pV f1 this 9 21 (.ref n)).bind fun f2 =>
  rI20 this (n + 1) f2
def rI18 (this n : Nat) (f : HF) : Option (HF × Nat) :=
  (some (hup f n (.inl (0, (40, .inl (fun _ => 0)))))).bind fun f1 =>
  (pV f1 this 9 20 (.ref n)).bind fun f2 =>
  rI19 this (n + 1) f2
def rI17 (this n : Nat) (f : HF) : Option (HF × Nat) :=
  (some (hup f n (.inl (0, (40, .inl (fun _ => 0)))))).bind fun f1 =>
  (pV f1 this 9 19 (.ref n)).bind fun f2 =>
  rI18 this (n + 1) f2
def rI16 (this n : Nat) (f : HF) : Option (HF × Nat) :=
  (some (hup f n (.inl (0, (40, .inl (fun _ => 0)))))).bind fun f1 =>
  (pV f1 this 9 18 (.ref n)).bind fun f2 =>
  rI17 this (n + 1) f2
def rI15 (this n : Nat) (f : HF) : Option (HF × Nat) :=
  (some (hup f n (.inl (1, (40, .inr (.inl (fun _ => 0))))))).bind fun f1 =>
  (pV f1 this 9 17 (.ref n)).bind fun f2 =>
  rI16 this (n + 1) f2
def rI14 (this n : Nat) (f : HF) : Option (HF × Nat) :=
  (some (hup f n (.inl (1, (40, .inr (.inl (fun _ => 0))))))).bind fun f1 =>
  (pV f1 this 9 16 (.ref n)).bind fun f2 =>
  rI15 this (n + 1) f2
def rI13 (this n : Nat) (f : HF) : Option (HF × Nat) :=
  (some (hup f n (.inl (0, (200, .inl (fun _ => 0)))))).bind fun f1 =>
  (pV f1 this 9 15 (.ref n)).bind fun f2 =>
  rI14 this (n + 1) f2
def rI12 (this n : Nat) (f : HF) : Option (HF × Nat) :=
  (some (hup f n (.inl (0, (40, .inl (fun _ => 0)))))).bind fun f1 =>
  (pV f1 this 9 14 (.ref n)).bind fun f2 =>
  rI13 this (n + 1) f2
def rI11 (this n : Nat) (f : HF) : Option (HF × Nat) :=
  (some (hup f n (.inl (0, (480, .inl (fun _ => 0)))))).bind fun f1 =>
  (pV f1 this 9 13 (.ref n)).bind fun f2 =>
  rI12 this (n + 1) f2
def rI10 (this n : Nat) (f : HF) : Option (HF × Nat) :=
  (some (hup f n (.inl (0, (40, .inl (fun _ => 0)))))).bind fun f1 =>
  (pV f1 this 9 12 (.ref n)).bind fun f2 =>
  rI11 this (n + 1) f2
def rI9 (this n : Nat) (f : HF) : Option (HF × Nat) :=
  (some (hup f n (.inl (0, (40, .inl (fun _ => 0)))))).bind fun f1 =>
  (pV f1 this 9 11 (.ref n)).bind fun f2 =>
  rI10 this (n + 1) f2
def rI8 (this n : Nat) (f : HF) : Option (HF × Nat) :=
  (some (hup f n (.inl (0, (1200, .inl (fun _ => 0)))))).bind fun f1 =>
  (pV f1 this 9 10 (.ref n)).bind fun f2 =>
  rI9 this (n + 1) f2
def rI7 (this n : Nat) (f : HF) : Option (HF × Nat) :=
  (some (hup f n (.inl (2, (40, .inl (fun _ => 0)))))).bind fun f1 =>
  (pV f1 this 9 9 (.ref n)).bind fun f2 =>
  rI8 this (n + 1) f2
def rI6 (this n : Nat) (f : HF) : Option (HF × Nat) :=
  (some (hup f n (.inl (0, (40, .inl (fun _ => 0)))))).bind fun f1 =>
  (pV f1 this 9 8 (.ref n)).bind fun f2 =>
  rI7 this (n + 1) f2
def rI5 (this n : Nat) (f : HF) : Option (HF × Nat) :=
  (some (hup f n (.inl (0, (40, .inl (fun _ => 0)))))).bind fun f1 =>
  (pV f1 this 9 7 (.ref n)).bind fun f2 =>
  rI6 this (n + 1) f2
def rI4 (this n : Nat) (f : HF) : Option (HF × Nat) :=
  (some (hup f n (.inl (0, (40, .inl (fun _ => 0)))))).bind fun f1 =>
  (pV f1 this 9 6 (.ref n)).bind fun f2 =>
  rI5 this (n + 1) f2
def rI3 (this n : Nat) (f : HF) : Option (HF × Nat) :=
  (some (hup f n (.inl (0, (40, .inl (fun _ => 0)))))).bind fun f1 =>
  (pV f1 this 9 5 (.ref n)).bind fun f2 =>
  rI4 this (n + 1) f2
def rI2 (this n : Nat) (f : HF) : Option (HF × Nat) :=
  (some (hup f n (.inl (0, (40, .inl (fun _ => 0)))))).bind fun f1 =>
  (pV f1 this 9 4 (.ref n)).bind fun f2 =>
  rI3 this (n + 1) f2
def rI1 (this n : Nat) (f : HF) : Option (HF × Nat) :=
  (some (hup f n (.inl (0, (40, .inl (fun _ => 0)))))).bind fun f1 =>
  (pV f1 this 9 3 (.ref n)).bind fun f2 =>
  rI2 this (n + 1) f2
def rI0 (this n : Nat) (f : HF) : Option (HF × Nat) :=
  (some (hup f n (.inl (0, (40, .inl (fun _ => 0)))))).bind fun f1 =>
  (pV f1 this 9 2 (.ref n)).bind fun f2 =>
  rI1 this (n + 1) f2
theorem rI_eq (N this n : Nat) (f : HF) : DX10_init N this f n = rI0 this n f := rfl
theorem rJ30 {h : Nat} (G : HF) : rI30 (h + 275) (h + 306) (Tt G h 275 306 9 (.int 0 :: .int 0 :: .ref (h + 276) :: .ref (h + 277) :: .ref (h + 278) :: .ref (h + 279) :: .ref (h + 280) :: .ref (h + 281) :: .ref (h + 282) :: .ref (h + 283) :: .ref (h + 284) :: .ref (h + 285) :: .ref (h + 286) :: .ref (h + 287) :: .ref (h + 288) :: .ref (h + 289) :: .ref (h + 290) :: .ref (h + 291) :: .ref (h + 292) :: .ref (h + 293) :: .ref (h + 294) :: .ref (h + 295) :: .ref (h + 296) :: .ref (h + 297) :: .ref (h + 298) :: .ref (h + 299) :: .int 0 :: .ref (h + 300) :: .int 0 :: .ref (h + 301) :: .int 0 :: .ref (h + 302) :: .ref (h + 303) :: .int 0 :: .ref (h + 304) :: .int 0 :: .ref (h + 305) :: .int 0 :: [])) = some (fil G h 275 306, h + 306) := by
  have m0 : mk h σ0 275 = some (.inr (9, (.int 0 :: .int 0 :: .ref (h + 276) :: .ref (h + 277) :: .ref (h + 278) :: .ref (h + 279) :: .ref (h + 280) :: .ref (h + 281) :: .ref (h + 282) :: .ref (h + 283) :: .ref (h + 284) :: .ref (h + 285) :: .ref (h + 286) :: .ref (h + 287) :: .ref (h + 288) :: .ref (h + 289) :: .ref (h + 290) :: .ref (h + 291) :: .ref (h + 292) :: .ref (h + 293) :: .ref (h + 294) :: .ref (h + 295) :: .ref (h + 296) :: .ref (h + 297) :: .ref (h + 298) :: .ref (h + 299) :: .int 0 :: .ref (h + 300) :: .int 0 :: .ref (h + 301) :: .int 0 :: .ref (h + 302) :: .ref (h + 303) :: .int 0 :: .ref (h + 304) :: .int 0 :: .ref (h + 305) :: .int 0 :: []))) := rfl
  unfold rI30
  rw [Tt_c (by omega) m0]
theorem rJ29 {h : Nat} (G : HF) : rI29 (h + 275) (h + 305) (Tt G h 275 305 9 (.int 0 :: .int 0 :: .ref (h + 276) :: .ref (h + 277) :: .ref (h + 278) :: .ref (h + 279) :: .ref (h + 280) :: .ref (h + 281) :: .ref (h + 282) :: .ref (h + 283) :: .ref (h + 284) :: .ref (h + 285) :: .ref (h + 286) :: .ref (h + 287) :: .ref (h + 288) :: .ref (h + 289) :: .ref (h + 290) :: .ref (h + 291) :: .ref (h + 292) :: .ref (h + 293) :: .ref (h + 294) :: .ref (h + 295) :: .ref (h + 296) :: .ref (h + 297) :: .ref (h + 298) :: .ref (h + 299) :: .int 0 :: .ref (h + 300) :: .int 0 :: .ref (h + 301) :: .int 0 :: .ref (h + 302) :: .ref (h + 303) :: .int 0 :: .ref (h + 304) :: .int 0 :: .null :: .int 0 :: [])) = some (fil G h 275 306, h + 306) := by
  have m1 : mk h σ0 305 = some (.inl (0, (3000, .inl (fun _ => 0)))) := rfl
  unfold rI29
  rw [Option.bind_some, Tt_a (by omega) m1, Tt_p, Option.bind_some]
  · simp only [List.set_cons_zero, List.set_cons_succ, Nat.add_assoc, Nat.reduceAdd]
    exact rJ30 G
  · simp only [List.length_cons, List.length_nil, Nat.reduceAdd, Nat.reduceLT]
theorem rJ28 {h : Nat} (G : HF) : rI28 (h + 275) (h + 304) (Tt G h 275 304 9 (.int 0 :: .int 0 :: .ref (h + 276) :: .ref (h + 277) :: .ref (h + 278) :: .ref (h + 279) :: .ref (h + 280) :: .ref (h + 281) :: .ref (h + 282) :: .ref (h + 283) :: .ref (h + 284) :: .ref (h + 285) :: .ref (h + 286) :: .ref (h + 287) :: .ref (h + 288) :: .ref (h + 289) :: .ref (h + 290) :: .ref (h + 291) :: .ref (h + 292) :: .ref (h + 293) :: .ref (h + 294) :: .ref (h + 295) :: .ref (h + 296) :: .ref (h + 297) :: .ref (h + 298) :: .ref (h + 299) :: .int 0 :: .ref (h + 300) :: .int 0 :: .ref (h + 301) :: .int 0 :: .ref (h + 302) :: .ref (h + 303) :: .int 0 :: .null :: .int 0 :: .null :: .int 0 :: [])) = some (fil G h 275 306, h + 306) := by
  have m1 : mk h σ0 304 = some (.inl (0, (8000, .inl (fun _ => 0)))) := rfl
  unfold rI28
  rw [Option.bind_some, Tt_a (by omega) m1, Tt_p, Option.bind_some]
  · simp only [List.set_cons_zero, List.set_cons_succ, Nat.add_assoc, Nat.reduceAdd]
    exact rJ29 G
  · simp only [List.length_cons, List.length_nil, Nat.reduceAdd, Nat.reduceLT]
theorem rJ27 {h : Nat} (G : HF) : rI27 (h + 275) (h + 303) (Tt G h 275 303 9 (.int 0 :: .int 0 :: .ref (h + 276) :: .ref (h + 277) :: .ref (h + 278) :: .ref (h + 279) :: .ref (h + 280) :: .ref (h + 281) :: .ref (h + 282) :: .ref (h + 283) :: .ref (h + 284) :: .ref (h + 285) :: .ref (h + 286) :: .ref (h + 287) :: .ref (h + 288) :: .ref (h + 289) :: .ref (h + 290) :: .ref (h + 291) :: .ref (h + 292) :: .ref (h + 293) :: .ref (h + 294) :: .ref (h + 295) :: .ref (h + 296) :: .ref (h + 297) :: .ref (h + 298) :: .ref (h + 299) :: .int 0 :: .ref (h + 300) :: .int 0 :: .ref (h + 301) :: .int 0 :: .ref (h + 302) :: .null :: .int 0 :: .null :: .int 0 :: .null :: .int 0 :: [])) = some (fil G h 275 306, h + 306) := by
  have m1 : mk h σ0 303 = some (.inl (0, (2000, .inl (fun _ => 0)))) := rfl
  unfold rI27
  rw [Option.bind_some, Tt_a (by omega) m1, Tt_p, Option.bind_some]
  · simp only [List.set_cons_zero, List.set_cons_succ, Nat.add_assoc, Nat.reduceAdd]
    exact rJ28 G
  · simp only [List.length_cons, List.length_nil, Nat.reduceAdd, Nat.reduceLT]
theorem rJ26 {h : Nat} (G : HF) : rI26 (h + 275) (h + 302) (Tt G h 275 302 9 (.int 0 :: .int 0 :: .ref (h + 276) :: .ref (h + 277) :: .ref (h + 278) :: .ref (h + 279) :: .ref (h + 280) :: .ref (h + 281) :: .ref (h + 282) :: .ref (h + 283) :: .ref (h + 284) :: .ref (h + 285) :: .ref (h + 286) :: .ref (h + 287) :: .ref (h + 288) :: .ref (h + 289) :: .ref (h + 290) :: .ref (h + 291) :: .ref (h + 292) :: .ref (h + 293) :: .ref (h + 294) :: .ref (h + 295) :: .ref (h + 296) :: .ref (h + 297) :: .ref (h + 298) :: .ref (h + 299) :: .int 0 :: .ref (h + 300) :: .int 0 :: .ref (h + 301) :: .int 0 :: .null :: .null :: .int 0 :: .null :: .int 0 :: .null :: .int 0 :: [])) = some (fil G h 275 306, h + 306) := by
  have m1 : mk h σ0 302 = some (.inl (0, (160, .inl (fun _ => 0)))) := rfl
  unfold rI26
  rw [Option.bind_some, Tt_a (by omega) m1, Tt_p, Option.bind_some]
  · simp only [List.set_cons_zero, List.set_cons_succ, Nat.add_assoc, Nat.reduceAdd]
    exact rJ27 G
  · simp only [List.length_cons, List.length_nil, Nat.reduceAdd, Nat.reduceLT]
theorem rJ25 {h : Nat} (G : HF) : rI25 (h + 275) (h + 301) (Tt G h 275 301 9 (.int 0 :: .int 0 :: .ref (h + 276) :: .ref (h + 277) :: .ref (h + 278) :: .ref (h + 279) :: .ref (h + 280) :: .ref (h + 281) :: .ref (h + 282) :: .ref (h + 283) :: .ref (h + 284) :: .ref (h + 285) :: .ref (h + 286) :: .ref (h + 287) :: .ref (h + 288) :: .ref (h + 289) :: .ref (h + 290) :: .ref (h + 291) :: .ref (h + 292) :: .ref (h + 293) :: .ref (h + 294) :: .ref (h + 295) :: .ref (h + 296) :: .ref (h + 297) :: .ref (h + 298) :: .ref (h + 299) :: .int 0 :: .ref (h + 300) :: .int 0 :: .null :: .int 0 :: .null :: .null :: .int 0 :: .null :: .int 0 :: .null :: .int 0 :: [])) = some (fil G h 275 306, h + 306) := by
  have m1 : mk h σ0 301 = some (.inl (0, (160, .inl (fun _ => 0)))) := rfl
  unfold rI25
  rw [Option.bind_some, Tt_a (by omega) m1, Tt_p, Option.bind_some]
  · simp only [List.set_cons_zero, List.set_cons_succ, Nat.add_assoc, Nat.reduceAdd]
    exact rJ26 G
  · simp only [List.length_cons, List.length_nil, Nat.reduceAdd, Nat.reduceLT]
theorem rJ24 {h : Nat} (G : HF) : rI24 (h + 275) (h + 300) (Tt G h 275 300 9 (.int 0 :: .int 0 :: .ref (h + 276) :: .ref (h + 277) :: .ref (h + 278) :: .ref (h + 279) :: .ref (h + 280) :: .ref (h + 281) :: .ref (h + 282) :: .ref (h + 283) :: .ref (h + 284) :: .ref (h + 285) :: .ref (h + 286) :: .ref (h + 287) :: .ref (h + 288) :: .ref (h + 289) :: .ref (h + 290) :: .ref (h + 291) :: .ref (h + 292) :: .ref (h + 293) :: .ref (h + 294) :: .ref (h + 295) :: .ref (h + 296) :: .ref (h + 297) :: .ref (h + 298) :: .ref (h + 299) :: .int 0 :: .null :: .int 0 :: .null :: .int 0 :: .null :: .null :: .int 0 :: .null :: .int 0 :: .null :: .int 0 :: [])) = some (fil G h 275 306, h + 306) := by
  have m1 : mk h σ0 300 = some (.inl (0, (64, .inl (fun _ => 0)))) := rfl
  unfold rI24
  rw [Option.bind_some, Tt_a (by omega) m1, Tt_p, Option.bind_some]
  · simp only [List.set_cons_zero, List.set_cons_succ, Nat.add_assoc, Nat.reduceAdd]
    exact rJ25 G
  · simp only [List.length_cons, List.length_nil, Nat.reduceAdd, Nat.reduceLT]
theorem rJ23 {h : Nat} (G : HF) : rI23 (h + 275) (h + 299) (Tt G h 275 299 9 (.int 0 :: .int 0 :: .ref (h + 276) :: .ref (h + 277) :: .ref (h + 278) :: .ref (h + 279) :: .ref (h + 280) :: .ref (h + 281) :: .ref (h + 282) :: .ref (h + 283) :: .ref (h + 284) :: .ref (h + 285) :: .ref (h + 286) :: .ref (h + 287) :: .ref (h + 288) :: .ref (h + 289) :: .ref (h + 290) :: .ref (h + 291) :: .ref (h + 292) :: .ref (h + 293) :: .ref (h + 294) :: .ref (h + 295) :: .ref (h + 296) :: .ref (h + 297) :: .ref (h + 298) :: .null :: .int 0 :: .null :: .int 0 :: .null :: .int 0 :: .null :: .null :: .int 0 :: .null :: .int 0 :: .null :: .int 0 :: [])) = some (fil G h 275 306, h + 306) := by
  have m1 : mk h σ0 299 = some (.inl (0, (40, .inl (fun _ => 0)))) := rfl
  unfold rI23
  rw [Option.bind_some, Tt_a (by omega) m1, Tt_p, Option.bind_some]
  · simp only [List.set_cons_zero, List.set_cons_succ, Nat.add_assoc, Nat.reduceAdd]
    exact rJ24 G
  · simp only [List.length_cons, List.length_nil, Nat.reduceAdd, Nat.reduceLT]
theorem rJ22 {h : Nat} (G : HF) : rI22 (h + 275) (h + 298) (Tt G h 275 298 9 (.int 0 :: .int 0 :: .ref (h + 276) :: .ref (h + 277) :: .ref (h + 278) :: .ref (h + 279) :: .ref (h + 280) :: .ref (h + 281) :: .ref (h + 282) :: .ref (h + 283) :: .ref (h + 284) :: .ref (h + 285) :: .ref (h + 286) :: .ref (h + 287) :: .ref (h + 288) :: .ref (h + 289) :: .ref (h + 290) :: .ref (h + 291) :: .ref (h + 292) :: .ref (h + 293) :: .ref (h + 294) :: .ref (h + 295) :: .ref (h + 296) :: .ref (h + 297) :: .null :: .null :: .int 0 :: .null :: .int 0 :: .null :: .int 0 :: .null :: .null :: .int 0 :: .null :: .int 0 :: .null :: .int 0 :: [])) = some (fil G h 275 306, h + 306) := by
  have m1 : mk h σ0 298 = some (.inl (2, (40, .inl (fun _ => 0)))) := rfl
  unfold rI22
  rw [Option.bind_some, Tt_a (by omega) m1, Tt_p, Option.bind_some]
  · simp only [List.set_cons_zero, List.set_cons_succ, Nat.add_assoc, Nat.reduceAdd]
    exact rJ23 G
  · simp only [List.length_cons, List.length_nil, Nat.reduceAdd, Nat.reduceLT]
theorem rJ21 {h : Nat} (G : HF) : rI21 (h + 275) (h + 297) (Tt G h 275 297 9 (.int 0 :: .int 0 :: .ref (h + 276) :: .ref (h + 277) :: .ref (h + 278) :: .ref (h + 279) :: .ref (h + 280) :: .ref (h + 281) :: .ref (h + 282) :: .ref (h + 283) :: .ref (h + 284) :: .ref (h + 285) :: .ref (h + 286) :: .ref (h + 287) :: .ref (h + 288) :: .ref (h + 289) :: .ref (h + 290) :: .ref (h + 291) :: .ref (h + 292) :: .ref (h + 293) :: .ref (h + 294) :: .ref (h + 295) :: .ref (h + 296) :: .null :: .null :: .null :: .int 0 :: .null :: .int 0 :: .null :: .int 0 :: .null :: .null :: .int 0 :: .null :: .int 0 :: .null :: .int 0 :: [])) = some (fil G h 275 306, h + 306) := by
  have m1 : mk h σ0 297 = some (.inl (2, (1600, .inl (fun _ => 0)))) := rfl
  unfold rI21
  rw [Option.bind_some, Tt_a (by omega) m1, Tt_p, Option.bind_some]
  · simp only [List.set_cons_zero, List.set_cons_succ, Nat.add_assoc, Nat.reduceAdd]
    exact rJ22 G
  · simp only [List.length_cons, List.length_nil, Nat.reduceAdd, Nat.reduceLT]
theorem rJ20 {h : Nat} (G : HF) : rI20 (h + 275) (h + 296) (Tt G h 275 296 9 (.int 0 :: .int 0 :: .ref (h + 276) :: .ref (h + 277) :: .ref (h + 278) :: .ref (h + 279) :: .ref (h + 280) :: .ref (h + 281) :: .ref (h + 282) :: .ref (h + 283) :: .ref (h + 284) :: .ref (h + 285) :: .ref (h + 286) :: .ref (h + 287) :: .ref (h + 288) :: .ref (h + 289) :: .ref (h + 290) :: .ref (h + 291) :: .ref (h + 292) :: .ref (h + 293) :: .ref (h + 294) :: .ref (h + 295) :: .null :: .null :: .null :: .null :: .int 0 :: .null :: .int 0 :: .null :: .int 0 :: .null :: .null :: .int 0 :: .null :: .int 0 :: .null :: .int 0 :: [])) = some (fil G h 275 306, h + 306) := by
  have m1 : mk h σ0 296 = some (.inl (2, (40, .inl (fun _ => 0)))) := rfl
  unfold rI20
  rw [Option.bind_some, Tt_a (by omega) m1, Tt_p, Option.bind_some]
  · simp only [List.set_cons_zero, List.set_cons_succ, Nat.add_assoc, Nat.reduceAdd]
    exact rJ21 G
  · simp only [List.length_cons, List.length_nil, Nat.reduceAdd, Nat.reduceLT]
theorem rJ19 {h : Nat} (G : HF) : rI19 (h + 275) (h + 295) (Tt G h 275 295 9 (.int 0 :: .int 0 :: .ref (h + 276) :: .ref (h + 277) :: .ref (h + 278) :: .ref (h + 279) :: .ref (h + 280) :: .ref (h + 281) :: .ref (h + 282) :: .ref (h + 283) :: .ref (h + 284) :: .ref (h + 285) :: .ref (h + 286) :: .ref (h + 287) :: .ref (h + 288) :: .ref (h + 289) :: .ref (h + 290) :: .ref (h + 291) :: .ref (h + 292) :: .ref (h + 293) :: .ref (h + 294) :: .null :: .null :: .null :: .null :: .null :: .int 0 :: .null :: .int 0 :: .null :: .int 0 :: .null :: .null :: .int 0 :: .null :: .int 0 :: .null :: .int 0 :: [])) = some (fil G h 275 306, h + 306) := by
  have m1 : mk h σ0 295 = some (.inl (2, (40, .inl (fun _ => 0)))) := rfl
  unfold rI19
  rw [Option.bind_some, Tt_a (by omega) m1, Tt_p, Option.bind_some]
  · simp only [List.set_cons_zero, List.set_cons_succ, Nat.add_assoc, Nat.reduceAdd]
    exact rJ20 G
  · simp only [List.length_cons, List.length_nil, Nat.reduceAdd, Nat.reduceLT]
theorem rJ18 {h : Nat} (G : HF) : rI18 (h + 275) (h + 294) (Tt G h 275 294 9 (.int 0 :: .int 0 :: .ref (h + 276) :: .ref (h + 277) :: .ref (h + 278) :: .ref (h + 279) :: .ref (h + 280) :: .ref (h + 281) :: .ref (h + 282) :: .ref (h + 283) :: .ref (h + 284) :: .ref (h + 285) :: .ref (h + 286) :: .ref (h + 287) :: .ref (h + 288) :: .ref (h + 289) :: .ref (h + 290) :: .ref (h + 291) :: .ref (h + 292) :: .ref (h + 293) :: .null :: .null :: .null :: .null :: .null :: .null :: .int 0 :: .null :: .int 0 :: .null :: .int 0 :: .null :: .null :: .int 0 :: .null :: .int 0 :: .null :: .int 0 :: [])) = some (fil G h 275 306, h + 306) := by
  have m1 : mk h σ0 294 = some (.inl (0, (40, .inl (fun _ => 0)))) := rfl
  unfold rI18
  rw [Option.bind_some, Tt_a (by omega) m1, Tt_p, Option.bind_some]
  · simp only [List.set_cons_zero, List.set_cons_succ, Nat.add_assoc, Nat.reduceAdd]
    exact rJ19 G
  · simp only [List.length_cons, List.length_nil, Nat.reduceAdd, Nat.reduceLT]
theorem rJ17 {h : Nat} (G : HF) : rI17 (h + 275) (h + 293) (Tt G h 275 293 9 (.int 0 :: .int 0 :: .ref (h + 276) :: .ref (h + 277) :: .ref (h + 278) :: .ref (h + 279) :: .ref (h + 280) :: .ref (h + 281) :: .ref (h + 282) :: .ref (h + 283) :: .ref (h + 284) :: .ref (h + 285) :: .ref (h + 286) :: .ref (h + 287) :: .ref (h + 288) :: .ref (h + 289) :: .ref (h + 290) :: .ref (h + 291) :: .ref (h + 292) :: .null :: .null :: .null :: .null :: .null :: .null :: .null :: .int 0 :: .null :: .int 0 :: .null :: .int 0 :: .null :: .null :: .int 0 :: .null :: .int 0 :: .null :: .int 0 :: [])) = some (fil G h 275 306, h + 306) := by
  have m1 : mk h σ0 293 = some (.inl (0, (40, .inl (fun _ => 0)))) := rfl
  unfold rI17
  rw [Option.bind_some, Tt_a (by omega) m1, Tt_p, Option.bind_some]
  · simp only [List.set_cons_zero, List.set_cons_succ, Nat.add_assoc, Nat.reduceAdd]
    exact rJ18 G
  · simp only [List.length_cons, List.length_nil, Nat.reduceAdd, Nat.reduceLT]
theorem rJ16 {h : Nat} (G : HF) : rI16 (h + 275) (h + 292) (Tt G h 275 292 9 (.int 0 :: .int 0 :: .ref (h + 276) :: .ref (h + 277) :: .ref (h + 278) :: .ref (h + 279) :: .ref (h + 280) :: .ref (h + 281) :: .ref (h + 282) :: .ref (h + 283) :: .ref (h + 284) :: .ref (h + 285) :: .ref (h + 286) :: .ref (h + 287) :: .ref (h + 288) :: .ref (h + 289) :: .ref (h + 290) :: .ref (h + 291) :: .null :: .null :: .null :: .null :: .null :: .null :: .null :: .null :: .int 0 :: .null :: .int 0 :: .null :: .int 0 :: .null :: .null :: .int 0 :: .null :: .int 0 :: .null :: .int 0 :: [])) = some (fil G h 275 306, h + 306) := by
  have m1 : mk h σ0 292 = some (.inl (0, (40, .inl (fun _ => 0)))) := rfl
  unfold rI16
  rw [Option.bind_some, Tt_a (by omega) m1, Tt_p, Option.bind_some]
  · simp only [List.set_cons_zero, List.set_cons_succ, Nat.add_assoc, Nat.reduceAdd]
    exact rJ17 G
  · simp only [List.length_cons, List.length_nil, Nat.reduceAdd, Nat.reduceLT]
theorem rJ15 {h : Nat} (G : HF) : rI15 (h + 275) (h + 291) (Tt G h 275 291 9 (.int 0 :: .int 0 :: .ref (h + 276) :: .ref (h + 277) :: .ref (h + 278) :: .ref (h + 279) :: .ref (h + 280) :: .ref (h + 281) :: .ref (h + 282) :: .ref (h + 283) :: .ref (h + 284) :: .ref (h + 285) :: .ref (h + 286) :: .ref (h + 287) :: .ref (h + 288) :: .ref (h + 289) :: .ref (h + 290) :: .null :: .null :: .null :: .null :: .null :: .null :: .null :: .null :: .null :: .int 0 :: .null :: .int 0 :: .null :: .int 0 :: .null :: .null :: .int 0 :: .null :: .int 0 :: .null :: .int 0 :: [])) = some (fil G h 275 306, h + 306) := by
  have m1 : mk h σ0 291 = some (.inl (1, (40, .inr (.inl (fun _ => 0))))) := rfl
  unfold rI15
  rw [Option.bind_some, Tt_a (by omega) m1, Tt_p, Option.bind_some]
  · simp only [List.set_cons_zero, List.set_cons_succ, Nat.add_assoc, Nat.reduceAdd]
    exact rJ16 G
  · simp only [List.length_cons, List.length_nil, Nat.reduceAdd, Nat.reduceLT]
theorem rJ14 {h : Nat} (G : HF) : rI14 (h + 275) (h + 290) (Tt G h 275 290 9 (.int 0 :: .int 0 :: .ref (h + 276) :: .ref (h + 277) :: .ref (h + 278) :: .ref (h + 279) :: .ref (h + 280) :: .ref (h + 281) :: .ref (h + 282) :: .ref (h + 283) :: .ref (h + 284) :: .ref (h + 285) :: .ref (h + 286) :: .ref (h + 287) :: .ref (h + 288) :: .ref (h + 289) :: .null :: .null :: .null :: .null :: .null :: .null :: .null :: .null :: .null :: .null :: .int 0 :: .null :: .int 0 :: .null :: .int 0 :: .null :: .null :: .int 0 :: .null :: .int 0 :: .null :: .int 0 :: [])) = some (fil G h 275 306, h + 306) := by
  have m1 : mk h σ0 290 = some (.inl (1, (40, .inr (.inl (fun _ => 0))))) := rfl
  unfold rI14
  rw [Option.bind_some, Tt_a (by omega) m1, Tt_p, Option.bind_some]
  · simp only [List.set_cons_zero, List.set_cons_succ, Nat.add_assoc, Nat.reduceAdd]
    exact rJ15 G
  · simp only [List.length_cons, List.length_nil, Nat.reduceAdd, Nat.reduceLT]
theorem rJ13 {h : Nat} (G : HF) : rI13 (h + 275) (h + 289) (Tt G h 275 289 9 (.int 0 :: .int 0 :: .ref (h + 276) :: .ref (h + 277) :: .ref (h + 278) :: .ref (h + 279) :: .ref (h + 280) :: .ref (h + 281) :: .ref (h + 282) :: .ref (h + 283) :: .ref (h + 284) :: .ref (h + 285) :: .ref (h + 286) :: .ref (h + 287) :: .ref (h + 288) :: .null :: .null :: .null :: .null :: .null :: .null :: .null :: .null :: .null :: .null :: .null :: .int 0 :: .null :: .int 0 :: .null :: .int 0 :: .null :: .null :: .int 0 :: .null :: .int 0 :: .null :: .int 0 :: [])) = some (fil G h 275 306, h + 306) := by
  have m1 : mk h σ0 289 = some (.inl (0, (200, .inl (fun _ => 0)))) := rfl
  unfold rI13
  rw [Option.bind_some, Tt_a (by omega) m1, Tt_p, Option.bind_some]
  · simp only [List.set_cons_zero, List.set_cons_succ, Nat.add_assoc, Nat.reduceAdd]
    exact rJ14 G
  · simp only [List.length_cons, List.length_nil, Nat.reduceAdd, Nat.reduceLT]
theorem rJ12 {h : Nat} (G : HF) : rI12 (h + 275) (h + 288) (Tt G h 275 288 9 (.int 0 :: .int 0 :: .ref (h + 276) :: .ref (h + 277) :: .ref (h + 278) :: .ref (h + 279) :: .ref (h + 280) :: .ref (h + 281) :: .ref (h + 282) :: .ref (h + 283) :: .ref (h + 284) :: .ref (h + 285) :: .ref (h + 286) :: .ref (h + 287) :: .null :: .null :: .null :: .null :: .null :: .null :: .null :: .null :: .null :: .null :: .null :: .null :: .int 0 :: .null :: .int 0 :: .null :: .int 0 :: .null :: .null :: .int 0 :: .null :: .int 0 :: .null :: .int 0 :: [])) = some (fil G h 275 306, h + 306) := by
  have m1 : mk h σ0 288 = some (.inl (0, (40, .inl (fun _ => 0)))) := rfl
  unfold rI12
  rw [Option.bind_some, Tt_a (by omega) m1, Tt_p, Option.bind_some]
  · simp only [List.set_cons_zero, List.set_cons_succ, Nat.add_assoc, Nat.reduceAdd]
    exact rJ13 G
  · simp only [List.length_cons, List.length_nil, Nat.reduceAdd, Nat.reduceLT]
theorem rJ11 {h : Nat} (G : HF) : rI11 (h + 275) (h + 287) (Tt G h 275 287 9 (.int 0 :: .int 0 :: .ref (h + 276) :: .ref (h + 277) :: .ref (h + 278) :: .ref (h + 279) :: .ref (h + 280) :: .ref (h + 281) :: .ref (h + 282) :: .ref (h + 283) :: .ref (h + 284) :: .ref (h + 285) :: .ref (h + 286) :: .null :: .null :: .null :: .null :: .null :: .null :: .null :: .null :: .null :: .null :: .null :: .null :: .null :: .int 0 :: .null :: .int 0 :: .null :: .int 0 :: .null :: .null :: .int 0 :: .null :: .int 0 :: .null :: .int 0 :: [])) = some (fil G h 275 306, h + 306) := by
  have m1 : mk h σ0 287 = some (.inl (0, (480, .inl (fun _ => 0)))) := rfl
  unfold rI11
  rw [Option.bind_some, Tt_a (by omega) m1, Tt_p, Option.bind_some]
  · simp only [List.set_cons_zero, List.set_cons_succ, Nat.add_assoc, Nat.reduceAdd]
    exact rJ12 G
  · simp only [List.length_cons, List.length_nil, Nat.reduceAdd, Nat.reduceLT]
theorem rJ10 {h : Nat} (G : HF) : rI10 (h + 275) (h + 286) (Tt G h 275 286 9 (.int 0 :: .int 0 :: .ref (h + 276) :: .ref (h + 277) :: .ref (h + 278) :: .ref (h + 279) :: .ref (h + 280) :: .ref (h + 281) :: .ref (h + 282) :: .ref (h + 283) :: .ref (h + 284) :: .ref (h + 285) :: .null :: .null :: .null :: .null :: .null :: .null :: .null :: .null :: .null :: .null :: .null :: .null :: .null :: .null :: .int 0 :: .null :: .int 0 :: .null :: .int 0 :: .null :: .null :: .int 0 :: .null :: .int 0 :: .null :: .int 0 :: [])) = some (fil G h 275 306, h + 306) := by
  have m1 : mk h σ0 286 = some (.inl (0, (40, .inl (fun _ => 0)))) := rfl
  unfold rI10
  rw [Option.bind_some, Tt_a (by omega) m1, Tt_p, Option.bind_some]
  · simp only [List.set_cons_zero, List.set_cons_succ, Nat.add_assoc, Nat.reduceAdd]
    exact rJ11 G
  · simp only [List.length_cons, List.length_nil, Nat.reduceAdd, Nat.reduceLT]
theorem rJ9 {h : Nat} (G : HF) : rI9 (h + 275) (h + 285) (Tt G h 275 285 9 (.int 0 :: .int 0 :: .ref (h + 276) :: .ref (h + 277) :: .ref (h + 278) :: .ref (h + 279) :: .ref (h + 280) :: .ref (h + 281) :: .ref (h + 282) :: .ref (h + 283) :: .ref (h + 284) :: .null :: .null :: .null :: .null :: .null :: .null :: .null :: .null :: .null :: .null :: .null :: .null :: .null :: .null :: .null :: .int 0 :: .null :: .int 0 :: .null :: .int 0 :: .null :: .null :: .int 0 :: .null :: .int 0 :: .null :: .int 0 :: [])) = some (fil G h 275 306, h + 306) := by
  have m1 : mk h σ0 285 = some (.inl (0, (40, .inl (fun _ => 0)))) := rfl
  unfold rI9
  rw [Option.bind_some, Tt_a (by omega) m1, Tt_p, Option.bind_some]
  · simp only [List.set_cons_zero, List.set_cons_succ, Nat.add_assoc, Nat.reduceAdd]
    exact rJ10 G
  · simp only [List.length_cons, List.length_nil, Nat.reduceAdd, Nat.reduceLT]
theorem rJ8 {h : Nat} (G : HF) : rI8 (h + 275) (h + 284) (Tt G h 275 284 9 (.int 0 :: .int 0 :: .ref (h + 276) :: .ref (h + 277) :: .ref (h + 278) :: .ref (h + 279) :: .ref (h + 280) :: .ref (h + 281) :: .ref (h + 282) :: .ref (h + 283) :: .null :: .null :: .null :: .null :: .null :: .null :: .null :: .null :: .null :: .null :: .null :: .null :: .null :: .null :: .null :: .null :: .int 0 :: .null :: .int 0 :: .null :: .int 0 :: .null :: .null :: .int 0 :: .null :: .int 0 :: .null :: .int 0 :: [])) = some (fil G h 275 306, h + 306) := by
  have m1 : mk h σ0 284 = some (.inl (0, (1200, .inl (fun _ => 0)))) := rfl
  unfold rI8
  rw [Option.bind_some, Tt_a (by omega) m1, Tt_p, Option.bind_some]
  · simp only [List.set_cons_zero, List.set_cons_succ, Nat.add_assoc, Nat.reduceAdd]
    exact rJ9 G
  · simp only [List.length_cons, List.length_nil, Nat.reduceAdd, Nat.reduceLT]
theorem rJ7 {h : Nat} (G : HF) : rI7 (h + 275) (h + 283) (Tt G h 275 283 9 (.int 0 :: .int 0 :: .ref (h + 276) :: .ref (h + 277) :: .ref (h + 278) :: .ref (h + 279) :: .ref (h + 280) :: .ref (h + 281) :: .ref (h + 282) :: .null :: .null :: .null :: .null :: .null :: .null :: .null :: .null :: .null :: .null :: .null :: .null :: .null :: .null :: .null :: .null :: .null :: .int 0 :: .null :: .int 0 :: .null :: .int 0 :: .null :: .null :: .int 0 :: .null :: .int 0 :: .null :: .int 0 :: [])) = some (fil G h 275 306, h + 306) := by
  have m1 : mk h σ0 283 = some (.inl (2, (40, .inl (fun _ => 0)))) := rfl
  unfold rI7
  rw [Option.bind_some, Tt_a (by omega) m1, Tt_p, Option.bind_some]
  · simp only [List.set_cons_zero, List.set_cons_succ, Nat.add_assoc, Nat.reduceAdd]
    exact rJ8 G
  · simp only [List.length_cons, List.length_nil, Nat.reduceAdd, Nat.reduceLT]
theorem rJ6 {h : Nat} (G : HF) : rI6 (h + 275) (h + 282) (Tt G h 275 282 9 (.int 0 :: .int 0 :: .ref (h + 276) :: .ref (h + 277) :: .ref (h + 278) :: .ref (h + 279) :: .ref (h + 280) :: .ref (h + 281) :: .null :: .null :: .null :: .null :: .null :: .null :: .null :: .null :: .null :: .null :: .null :: .null :: .null :: .null :: .null :: .null :: .null :: .null :: .int 0 :: .null :: .int 0 :: .null :: .int 0 :: .null :: .null :: .int 0 :: .null :: .int 0 :: .null :: .int 0 :: [])) = some (fil G h 275 306, h + 306) := by
  have m1 : mk h σ0 282 = some (.inl (0, (40, .inl (fun _ => 0)))) := rfl
  unfold rI6
  rw [Option.bind_some, Tt_a (by omega) m1, Tt_p, Option.bind_some]
  · simp only [List.set_cons_zero, List.set_cons_succ, Nat.add_assoc, Nat.reduceAdd]
    exact rJ7 G
  · simp only [List.length_cons, List.length_nil, Nat.reduceAdd, Nat.reduceLT]
theorem rJ5 {h : Nat} (G : HF) : rI5 (h + 275) (h + 281) (Tt G h 275 281 9 (.int 0 :: .int 0 :: .ref (h + 276) :: .ref (h + 277) :: .ref (h + 278) :: .ref (h + 279) :: .ref (h + 280) :: .null :: .null :: .null :: .null :: .null :: .null :: .null :: .null :: .null :: .null :: .null :: .null :: .null :: .null :: .null :: .null :: .null :: .null :: .null :: .int 0 :: .null :: .int 0 :: .null :: .int 0 :: .null :: .null :: .int 0 :: .null :: .int 0 :: .null :: .int 0 :: [])) = some (fil G h 275 306, h + 306) := by
  have m1 : mk h σ0 281 = some (.inl (0, (40, .inl (fun _ => 0)))) := rfl
  unfold rI5
  rw [Option.bind_some, Tt_a (by omega) m1, Tt_p, Option.bind_some]
  · simp only [List.set_cons_zero, List.set_cons_succ, Nat.add_assoc, Nat.reduceAdd]
    exact rJ6 G
  · simp only [List.length_cons, List.length_nil, Nat.reduceAdd, Nat.reduceLT]
theorem rJ4 {h : Nat} (G : HF) : rI4 (h + 275) (h + 280) (Tt G h 275 280 9 (.int 0 :: .int 0 :: .ref (h + 276) :: .ref (h + 277) :: .ref (h + 278) :: .ref (h + 279) :: .null :: .null :: .null :: .null :: .null :: .null :: .null :: .null :: .null :: .null :: .null :: .null :: .null :: .null :: .null :: .null :: .null :: .null :: .null :: .null :: .int 0 :: .null :: .int 0 :: .null :: .int 0 :: .null :: .null :: .int 0 :: .null :: .int 0 :: .null :: .int 0 :: [])) = some (fil G h 275 306, h + 306) := by
  have m1 : mk h σ0 280 = some (.inl (0, (40, .inl (fun _ => 0)))) := rfl
  unfold rI4
  rw [Option.bind_some, Tt_a (by omega) m1, Tt_p, Option.bind_some]
  · simp only [List.set_cons_zero, List.set_cons_succ, Nat.add_assoc, Nat.reduceAdd]
    exact rJ5 G
  · simp only [List.length_cons, List.length_nil, Nat.reduceAdd, Nat.reduceLT]
theorem rJ3 {h : Nat} (G : HF) : rI3 (h + 275) (h + 279) (Tt G h 275 279 9 (.int 0 :: .int 0 :: .ref (h + 276) :: .ref (h + 277) :: .ref (h + 278) :: .null :: .null :: .null :: .null :: .null :: .null :: .null :: .null :: .null :: .null :: .null :: .null :: .null :: .null :: .null :: .null :: .null :: .null :: .null :: .null :: .null :: .int 0 :: .null :: .int 0 :: .null :: .int 0 :: .null :: .null :: .int 0 :: .null :: .int 0 :: .null :: .int 0 :: [])) = some (fil G h 275 306, h + 306) := by
  have m1 : mk h σ0 279 = some (.inl (0, (40, .inl (fun _ => 0)))) := rfl
  unfold rI3
  rw [Option.bind_some, Tt_a (by omega) m1, Tt_p, Option.bind_some]
  · simp only [List.set_cons_zero, List.set_cons_succ, Nat.add_assoc, Nat.reduceAdd]
    exact rJ4 G
  · simp only [List.length_cons, List.length_nil, Nat.reduceAdd, Nat.reduceLT]
theorem rJ2 {h : Nat} (G : HF) : rI2 (h + 275) (h + 278) (Tt G h 275 278 9 (.int 0 :: .int 0 :: .ref (h + 276) :: .ref (h + 277) :: .null :: .null :: .null :: .null :: .null :: .null :: .null :: .null :: .null :: .null :: .null :: .null :: .null :: .null :: .null :: .null :: .null :: .null :: .null :: .null :: .null :: .null :: .int 0 :: .null :: .int 0 :: .null :: .int 0 :: .null :: .null :: .int 0 :: .null :: .int 0 :: .null :: .int 0 :: [])) = some (fil G h 275 306, h + 306) := by
  have m1 : mk h σ0 278 = some (.inl (0, (40, .inl (fun _ => 0)))) := rfl
  unfold rI2
  rw [Option.bind_some, Tt_a (by omega) m1, Tt_p, Option.bind_some]
  · simp only [List.set_cons_zero, List.set_cons_succ, Nat.add_assoc, Nat.reduceAdd]
    exact rJ3 G
  · simp only [List.length_cons, List.length_nil, Nat.reduceAdd, Nat.reduceLT]
theorem rJ1 {h : Nat} (G : HF) : rI1 (h + 275) (h + 277) (Tt G h 275 277 9 (.int 0 :: .int 0 :: .ref (h + 276) :: .null :: .null :: .null :: .null :: .null :: .null :: .null :: .null :: .null :: .null :: .null :: .null :: .null :: .null :: .null :: .null :: .null :: .null :: .null :: .null :: .null :: .null :: .null :: .int 0 :: .null :: .int 0 :: .null :: .int 0 :: .null :: .null :: .int 0 :: .null :: .int 0 :: .null :: .int 0 :: [])) = some (fil G h 275 306, h + 306) := by
  have m1 : mk h σ0 277 = some (.inl (0, (40, .inl (fun _ => 0)))) := rfl
  unfold rI1
  rw [Option.bind_some, Tt_a (by omega) m1, Tt_p, Option.bind_some]
  · simp only [List.set_cons_zero, List.set_cons_succ, Nat.add_assoc, Nat.reduceAdd]
    exact rJ2 G
  · simp only [List.length_cons, List.length_nil, Nat.reduceAdd, Nat.reduceLT]
theorem rJ0 {h : Nat} (G : HF) : rI0 (h + 275) (h + 276) (Tt G h 275 276 9 (.int 0 :: .int 0 :: .null :: .null :: .null :: .null :: .null :: .null :: .null :: .null :: .null :: .null :: .null :: .null :: .null :: .null :: .null :: .null :: .null :: .null :: .null :: .null :: .null :: .null :: .null :: .null :: .int 0 :: .null :: .int 0 :: .null :: .int 0 :: .null :: .null :: .int 0 :: .null :: .int 0 :: .null :: .int 0 :: [])) = some (fil G h 275 306, h + 306) := by
  have m1 : mk h σ0 276 = some (.inl (0, (40, .inl (fun _ => 0)))) := rfl
  unfold rI0
  rw [Option.bind_some, Tt_a (by omega) m1, Tt_p, Option.bind_some]
  · simp only [List.set_cons_zero, List.set_cons_succ, Nat.add_assoc, Nat.reduceAdd]
    exact rJ1 G
  · simp only [List.length_cons, List.length_nil, Nat.reduceAdd, Nat.reduceLT]
theorem i_ref {N h : Nat} (G : HF) : DX10_init N (h + 275) (hup G (h + 275) (.inr (9, (.int 0 :: .int 0 :: .null :: .null :: .null :: .null :: .null :: .null :: .null :: .null :: .null :: .null :: .null :: .null :: .null :: .null :: .null :: .null :: .null :: .null :: .null :: .null :: .null :: .null :: .null :: .null :: .int 0 :: .null :: .int 0 :: .null :: .int 0 :: .null :: .null :: .int 0 :: .null :: .int 0 :: .null :: .int 0 :: [])))) (h + 276) = some (fil G h 275 306, h + 306) := by
  rw [rI_eq, Tt_0 G h 275]
  exact rJ0 G
