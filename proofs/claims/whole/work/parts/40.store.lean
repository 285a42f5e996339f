/-! THE STORE: all cells at offsets from h; four functions hold what changes -/
abbrev SG : Type := (Nat → Nat → Int32) × (Nat → Nat → Int64) × (Nat → Nat → Int32) × (Nat → Nat → Int64)
/-- the kind of the cell at an offset: 0 Calculator, 1 Field, 2 Marks, 3 Reader, 4 Row, 5 Tree, 6 View, 7 Writer, 8 FormFields, 9 the reference; 10 int[], 11 long[], 12 boolean[], 13 Field[], 14 int[][]; 15 none -/
def kd (k : Nat) : Nat :=
  if 3 ≤ k ∧ k < 243 then (if (k - 3) % 6 = 0 then 1 else if (k - 3) % 6 = 2 ∨ (k - 3) % 6 = 4 then 4 else 10)
  else match k with
  | 0 => 8 | 1 => 5 | 2 => 13
  | 243 => 6 | 244 => 4 | 245 => 10
  | 246 => 0 | 247 => 11 | 248 => 11 | 249 => 4 | 250 => 10 | 251 => 4 | 252 => 10
  | 253 => 7 | 254 => 4 | 255 => 10 | 256 => 4 | 257 => 10
  | 258 => 3 | 259 => 4 | 260 => 10
  | 261 => 2 | 262 => 14 | 263 => 10 | 264 => 10 | 265 => 10 | 266 => 10 | 267 => 10
  | 268 => 2 | 269 => 14 | 270 => 10 | 271 => 10 | 272 => 10 | 273 => 10 | 274 => 10
  | 275 => 9
  | 283 => 12 | 290 => 11 | 291 => 11 | 295 => 12 | 296 => 12 | 297 => 12 | 298 => 12
  | 306 => 11
  | _ => if 276 ≤ k ∧ k ≤ 305 then 10 else 15
/-- the length of the array at an offset -/
def ln (k : Nat) : Nat :=
  if 3 ≤ k ∧ k < 243 then (if (k - 3) % 6 = 1 then 8 else if (k - 3) % 6 = 3 then 30 else 12)
  else match k with
  | 2 => 40 | 245 => 30 | 247 => 40 | 248 => 40 | 250 => 14 | 252 => 40 | 255 => 2400 | 257 => 40 | 260 => 3000
  | 262 => 5 | 263 => 31 | 264 => 31 | 265 => 31 | 266 => 31 | 267 => 31
  | 269 => 5 | 270 => 400 | 271 => 400 | 272 => 400 | 273 => 400 | 274 => 400
  | 284 => 1200 | 287 => 480 | 289 => 200 | 297 => 1600 | 300 => 64 | 301 => 160 | 302 => 160 | 303 => 2000 | 304 => 8000 | 305 => 3000
  | 306 => 1
  | _ => 40
def mk (h : Nat) (σ : SG) (k : Nat) : Option Ob := match kd k with
  | 0 => some (.inr (0, [.ref (h + 1), .ref (h + 247), .ref (h + 248), .ref (h + 249), .ref (h + 251)]))
  | 1 => some (.inr (1, [.int (σ.1 k 0), .int (σ.1 k 1), .int (σ.1 k 2), .int (σ.1 k 3), .int (σ.1 k 4), .int (σ.1 k 5), .int (σ.1 k 6), .ref (h + (k + 1)), .ref (h + (k + 2)), .ref (h + (k + 4)), .int (σ.1 k 10), .long (σ.2.1 k 11), .long (σ.2.1 k 12), .int (σ.1 k 13), .int (σ.1 k 14), .int (σ.1 k 15), .int (σ.1 k 16)]))
  | 2 => some (.inr (2, [.ref (h + (k + 1)), .int (σ.1 k 1), .int (σ.1 k 2)]))
  | 3 => some (.inr (3, [.ref (h + 1), .ref (h + 259)]))
  | 4 => some (.inr (4, [.ref (h + (k + 1)), .int (σ.1 k 1)]))
  | 5 => some (.inr (5, [.ref (h + 2), .int (σ.1 k 1)]))
  | 6 => some (.inr (6, [.ref (h + 244)]))
  | 7 => some (.inr (7, [.ref (h + 1), .ref (h + 254), .ref (h + 256)]))
  | 8 => some (.inr (8, [.ref (h + 1), .ref (h + 243), .ref (h + 246), .ref (h + 253), .ref (h + 258), .ref (h + 261), .ref (h + 268)]))
  | 9 => some (.inr (9, [.int (σ.1 k 0), .int (σ.1 k 1), .ref (h + 276), .ref (h + 277), .ref (h + 278), .ref (h + 279), .ref (h + 280), .ref (h + 281), .ref (h + 282), .ref (h + 283), .ref (h + 284), .ref (h + 285), .ref (h + 286), .ref (h + 287), .ref (h + 288), .ref (h + 289), .ref (h + 290), .ref (h + 291), .ref (h + 292), .ref (h + 293), .ref (h + 294), .ref (h + 295), .ref (h + 296), .ref (h + 297), .ref (h + 298), .ref (h + 299), .int (σ.1 k 26), .ref (h + 300), .int (σ.1 k 28), .ref (h + 301), .int (σ.1 k 30), .ref (h + 302), .ref (h + 303), .int (σ.1 k 33), .ref (h + 304), .int (σ.1 k 35), .ref (h + 305), .int (σ.1 k 37)]))
  | 10 => some (.inl (0, (ln k, .inl (σ.2.2.1 k))))
  | 11 => some (.inl (1, (ln k, .inr (.inl (σ.2.2.2 k)))))
  | 12 => some (.inl (2, (ln k, .inl (σ.2.2.1 k))))
  | 13 => some (.inl (3, (ln k, .inr (.inr (.inr (.inr (fun i => if i < 40 then some (h + (3 + 6 * i)) else none)))))))
  | 14 => some (.inl (4, (ln k, .inr (.inr (.inr (.inr (fun i => if i < 5 then some (h + (k + 1 + i)) else none)))))))
  | _ => none
def HH (h : Nat) (σ : SG) : HF := fun q => if h ≤ q then mk h σ (q - h) else none
def uI (σ : SG) (k j : Nat) (x : Int32) : SG := (fun k' j' => if k' = k ∧ j' = j then x else σ.1 k' j', σ.2)
def uG (σ : SG) (k j : Nat) (x : Int64) : SG := (σ.1, fun k' j' => if k' = k ∧ j' = j then x else σ.2.1 k' j', σ.2.2)
def uA (σ : SG) (k j : Nat) (x : Int32) : SG := (σ.1, σ.2.1, fun k' j' => if k' = k ∧ j' = j then x else σ.2.2.1 k' j', σ.2.2.2)
def uB (σ : SG) (k j : Nat) (x : Int64) : SG := (σ.1, σ.2.1, σ.2.2.1, fun k' j' => if k' = k ∧ j' = j then x else σ.2.2.2 k' j')
theorem HH_at (h : Nat) (σ : SG) (k : Nat) : HH h σ (h + k) = mk h σ k := by
  unfold HH
  rw [if_pos (Nat.le_add_right h k), Nat.add_sub_cancel_left]
theorem mk_cong {h : Nat} {σ τ : SG} {k : Nat} (h1 : σ.1 k = τ.1 k) (h2 : σ.2.1 k = τ.2.1 k) (h3 : σ.2.2.1 k = τ.2.2.1 k) (h4 : σ.2.2.2 k = τ.2.2.2 k) : mk h σ k = mk h τ k := by
  unfold mk
  rw [h1, h2, h3, h4]
/-- the picture with one cell changed is the picture of the store that differs there alone -/
theorem HH_up {h : Nat} {σ τ : SG} {k : Nat} {o : Ob} (ho : mk h τ k = some o) (hq : ∀ k', k' ≠ k → σ.1 k' = τ.1 k' ∧ σ.2.1 k' = τ.2.1 k' ∧ σ.2.2.1 k' = τ.2.2.1 k' ∧ σ.2.2.2 k' = τ.2.2.2 k') : hup (HH h σ) (h + k) o = HH h τ := by
  funext q
  unfold hup
  by_cases e : q = h + k
  · rw [if_pos e, e, HH_at, ho]
  · rw [if_neg e]
    unfold HH
    by_cases hl : h ≤ q
    · rw [if_pos hl, if_pos hl]
      obtain ⟨a, b, c, d⟩ := hq (q - h) (by omega)
      exact mk_cong a b c d
    · rw [if_neg hl, if_neg hl]
theorem uI_off (σ : SG) (k j : Nat) (x : Int32) (k' : Nat) (h : k' ≠ k) : σ.1 k' = (uI σ k j x).1 k' ∧ σ.2.1 k' = (uI σ k j x).2.1 k' ∧ σ.2.2.1 k' = (uI σ k j x).2.2.1 k' ∧ σ.2.2.2 k' = (uI σ k j x).2.2.2 k' := ⟨by funext j'; simp [uI, h], rfl, rfl, rfl⟩
theorem uG_off (σ : SG) (k j : Nat) (x : Int64) (k' : Nat) (h : k' ≠ k) : σ.1 k' = (uG σ k j x).1 k' ∧ σ.2.1 k' = (uG σ k j x).2.1 k' ∧ σ.2.2.1 k' = (uG σ k j x).2.2.1 k' ∧ σ.2.2.2 k' = (uG σ k j x).2.2.2 k' := ⟨rfl, by funext j'; simp [uG, h], rfl, rfl⟩
theorem uA_off (σ : SG) (k j : Nat) (x : Int32) (k' : Nat) (h : k' ≠ k) : σ.1 k' = (uA σ k j x).1 k' ∧ σ.2.1 k' = (uA σ k j x).2.1 k' ∧ σ.2.2.1 k' = (uA σ k j x).2.2.1 k' ∧ σ.2.2.2 k' = (uA σ k j x).2.2.2 k' := ⟨rfl, rfl, by funext j'; simp [uA, h], rfl⟩
theorem uB_off (σ : SG) (k j : Nat) (x : Int64) (k' : Nat) (h : k' ≠ k) : σ.1 k' = (uB σ k j x).1 k' ∧ σ.2.1 k' = (uB σ k j x).2.1 k' ∧ σ.2.2.1 k' = (uB σ k j x).2.2.1 k' ∧ σ.2.2.2 k' = (uB σ k j x).2.2.2 k' := ⟨rfl, rfl, rfl, by funext j'; simp [uB, h]⟩
theorem pV_HH {h : Nat} {σ τ : SG} {k ci j : Nat} {v : Value} {fs : List Value} (e : mk h σ k = some (.inr (ci, fs))) (hj : j < fs.length) (e2 : mk h τ k = some (.inr (ci, fs.set j v))) (hq : ∀ k', k' ≠ k → σ.1 k' = τ.1 k' ∧ σ.2.1 k' = τ.2.1 k' ∧ σ.2.2.1 k' = τ.2.2.1 k' ∧ σ.2.2.2 k' = τ.2.2.2 k') : pV (HH h σ) (h + k) ci j v = some (HH h τ) := by
  unfold pV
  rw [HH_at, e]
  simp only [hj, and_self, if_true]
  rw [HH_up e2 hq]
theorem sI_HH {h : Nat} {σ τ : SG} {k t n : Nat} {i x : Int32} {z : Nat → Int32} (e : mk h σ k = some (.inl (t, (n, .inl z)))) (e2 : mk h τ k = some (.inl (t, (n, .inl (upd z i.toNatClampNeg x))))) (hq : ∀ k', k' ≠ k → σ.1 k' = τ.1 k' ∧ σ.2.1 k' = τ.2.1 k' ∧ σ.2.2.1 k' = τ.2.2.1 k' ∧ σ.2.2.2 k' = τ.2.2.2 k') : sI (HH h σ) (h + k) t i x = if ¬ i < 0 ∧ i.toNatClampNeg < n then some (HH h τ) else none := by
  unfold sI
  rw [HH_at, e]
  simp only [true_and]
  rw [HH_up e2 hq]
theorem sL_HH {h : Nat} {σ τ : SG} {k n : Nat} {i : Int32} {x : Int64} {z : Nat → Int64} (e : mk h σ k = some (.inl (1, (n, .inr (.inl z))))) (e2 : mk h τ k = some (.inl (1, (n, .inr (.inl (vp_updL z i.toNatClampNeg x)))))) (hq : ∀ k', k' ≠ k → σ.1 k' = τ.1 k' ∧ σ.2.1 k' = τ.2.1 k' ∧ σ.2.2.1 k' = τ.2.2.1 k' ∧ σ.2.2.2 k' = τ.2.2.2 k') : sL (HH h σ) (h + k) i x = if ¬ i < 0 ∧ i.toNatClampNeg < n then some (HH h τ) else none := by
  unfold sL
  rw [HH_at, e]
  simp only [true_and]
  rw [HH_up e2 hq]
theorem mk_0 {h : Nat} {σ : SG} {k : Nat} (hk : kd k = 0) : mk h σ k = some (.inr (0, [.ref (h + 1), .ref (h + 247), .ref (h + 248), .ref (h + 249), .ref (h + 251)])) := by
  simp only [mk, hk]
theorem ck_0 {h : Nat} {σ : SG} {k : Nat} (hk : kd k = 0) : ck (HH h σ) (h + k) 0 = some () := by
  simp [ck, HH_at, mk, hk]
theorem g_0_0 {h : Nat} {σ : SG} {k : Nat} (hk : kd k = 0) : gR (HH h σ) (h + k) 0 0 = some (h + 1) := by
  simp [gR, gV, HH_at, mk, hk]
theorem g_0_1 {h : Nat} {σ : SG} {k : Nat} (hk : kd k = 0) : gR (HH h σ) (h + k) 0 1 = some (h + 247) := by
  simp [gR, gV, HH_at, mk, hk]
theorem g_0_2 {h : Nat} {σ : SG} {k : Nat} (hk : kd k = 0) : gR (HH h σ) (h + k) 0 2 = some (h + 248) := by
  simp [gR, gV, HH_at, mk, hk]
theorem g_0_3 {h : Nat} {σ : SG} {k : Nat} (hk : kd k = 0) : gR (HH h σ) (h + k) 0 3 = some (h + 249) := by
  simp [gR, gV, HH_at, mk, hk]
theorem g_0_4 {h : Nat} {σ : SG} {k : Nat} (hk : kd k = 0) : gR (HH h σ) (h + k) 0 4 = some (h + 251) := by
  simp [gR, gV, HH_at, mk, hk]
theorem mk_1 {h : Nat} {σ : SG} {k : Nat} (hk : kd k = 1) : mk h σ k = some (.inr (1, [.int (σ.1 k 0), .int (σ.1 k 1), .int (σ.1 k 2), .int (σ.1 k 3), .int (σ.1 k 4), .int (σ.1 k 5), .int (σ.1 k 6), .ref (h + (k + 1)), .ref (h + (k + 2)), .ref (h + (k + 4)), .int (σ.1 k 10), .long (σ.2.1 k 11), .long (σ.2.1 k 12), .int (σ.1 k 13), .int (σ.1 k 14), .int (σ.1 k 15), .int (σ.1 k 16)])) := by
  simp only [mk, hk]
theorem ck_1 {h : Nat} {σ : SG} {k : Nat} (hk : kd k = 1) : ck (HH h σ) (h + k) 1 = some () := by
  simp [ck, HH_at, mk, hk]
theorem g_1_0 {h : Nat} {σ : SG} {k : Nat} (hk : kd k = 1) : gI (HH h σ) (h + k) 1 0 = some (σ.1 k 0) := by
  simp [gI, gV, HH_at, mk, hk]
theorem p_1_0 {h : Nat} {σ : SG} {k : Nat} (hk : kd k = 1) (x : Int32) : pV (HH h σ) (h + k) 1 0 (.int x) = some (HH h (uI σ k 0 x)) := pV_HH (fs := [.int (σ.1 k 0), .int (σ.1 k 1), .int (σ.1 k 2), .int (σ.1 k 3), .int (σ.1 k 4), .int (σ.1 k 5), .int (σ.1 k 6), .ref (h + (k + 1)), .ref (h + (k + 2)), .ref (h + (k + 4)), .int (σ.1 k 10), .long (σ.2.1 k 11), .long (σ.2.1 k 12), .int (σ.1 k 13), .int (σ.1 k 14), .int (σ.1 k 15), .int (σ.1 k 16)]) (mk_1 hk) (by simp) (by rw [mk_1 hk]; simp [uI]) (uI_off σ k 0 x)
theorem g_1_1 {h : Nat} {σ : SG} {k : Nat} (hk : kd k = 1) : gI (HH h σ) (h + k) 1 1 = some (σ.1 k 1) := by
  simp [gI, gV, HH_at, mk, hk]
theorem p_1_1 {h : Nat} {σ : SG} {k : Nat} (hk : kd k = 1) (x : Int32) : pV (HH h σ) (h + k) 1 1 (.int x) = some (HH h (uI σ k 1 x)) := pV_HH (fs := [.int (σ.1 k 0), .int (σ.1 k 1), .int (σ.1 k 2), .int (σ.1 k 3), .int (σ.1 k 4), .int (σ.1 k 5), .int (σ.1 k 6), .ref (h + (k + 1)), .ref (h + (k + 2)), .ref (h + (k + 4)), .int (σ.1 k 10), .long (σ.2.1 k 11), .long (σ.2.1 k 12), .int (σ.1 k 13), .int (σ.1 k 14), .int (σ.1 k 15), .int (σ.1 k 16)]) (mk_1 hk) (by simp) (by rw [mk_1 hk]; simp [uI]) (uI_off σ k 1 x)
theorem g_1_2 {h : Nat} {σ : SG} {k : Nat} (hk : kd k = 1) : gI (HH h σ) (h + k) 1 2 = some (σ.1 k 2) := by
  simp [gI, gV, HH_at, mk, hk]
theorem p_1_2 {h : Nat} {σ : SG} {k : Nat} (hk : kd k = 1) (x : Int32) : pV (HH h σ) (h + k) 1 2 (.int x) = some (HH h (uI σ k 2 x)) := pV_HH (fs := [.int (σ.1 k 0), .int (σ.1 k 1), .int (σ.1 k 2), .int (σ.1 k 3), .int (σ.1 k 4), .int (σ.1 k 5), .int (σ.1 k 6), .ref (h + (k + 1)), .ref (h + (k + 2)), .ref (h + (k + 4)), .int (σ.1 k 10), .long (σ.2.1 k 11), .long (σ.2.1 k 12), .int (σ.1 k 13), .int (σ.1 k 14), .int (σ.1 k 15), .int (σ.1 k 16)]) (mk_1 hk) (by simp) (by rw [mk_1 hk]; simp [uI]) (uI_off σ k 2 x)
theorem g_1_3 {h : Nat} {σ : SG} {k : Nat} (hk : kd k = 1) : gI (HH h σ) (h + k) 1 3 = some (σ.1 k 3) := by
  simp [gI, gV, HH_at, mk, hk]
theorem p_1_3 {h : Nat} {σ : SG} {k : Nat} (hk : kd k = 1) (x : Int32) : pV (HH h σ) (h + k) 1 3 (.int x) = some (HH h (uI σ k 3 x)) := pV_HH (fs := [.int (σ.1 k 0), .int (σ.1 k 1), .int (σ.1 k 2), .int (σ.1 k 3), .int (σ.1 k 4), .int (σ.1 k 5), .int (σ.1 k 6), .ref (h + (k + 1)), .ref (h + (k + 2)), .ref (h + (k + 4)), .int (σ.1 k 10), .long (σ.2.1 k 11), .long (σ.2.1 k 12), .int (σ.1 k 13), .int (σ.1 k 14), .int (σ.1 k 15), .int (σ.1 k 16)]) (mk_1 hk) (by simp) (by rw [mk_1 hk]; simp [uI]) (uI_off σ k 3 x)
theorem g_1_4 {h : Nat} {σ : SG} {k : Nat} (hk : kd k = 1) : gI (HH h σ) (h + k) 1 4 = some (σ.1 k 4) := by
  simp [gI, gV, HH_at, mk, hk]
theorem p_1_4 {h : Nat} {σ : SG} {k : Nat} (hk : kd k = 1) (x : Int32) : pV (HH h σ) (h + k) 1 4 (.int x) = some (HH h (uI σ k 4 x)) := pV_HH (fs := [.int (σ.1 k 0), .int (σ.1 k 1), .int (σ.1 k 2), .int (σ.1 k 3), .int (σ.1 k 4), .int (σ.1 k 5), .int (σ.1 k 6), .ref (h + (k + 1)), .ref (h + (k + 2)), .ref (h + (k + 4)), .int (σ.1 k 10), .long (σ.2.1 k 11), .long (σ.2.1 k 12), .int (σ.1 k 13), .int (σ.1 k 14), .int (σ.1 k 15), .int (σ.1 k 16)]) (mk_1 hk) (by simp) (by rw [mk_1 hk]; simp [uI]) (uI_off σ k 4 x)
theorem g_1_5 {h : Nat} {σ : SG} {k : Nat} (hk : kd k = 1) : gI (HH h σ) (h + k) 1 5 = some (σ.1 k 5) := by
  simp [gI, gV, HH_at, mk, hk]
theorem p_1_5 {h : Nat} {σ : SG} {k : Nat} (hk : kd k = 1) (x : Int32) : pV (HH h σ) (h + k) 1 5 (.int x) = some (HH h (uI σ k 5 x)) := pV_HH (fs := [.int (σ.1 k 0), .int (σ.1 k 1), .int (σ.1 k 2), .int (σ.1 k 3), .int (σ.1 k 4), .int (σ.1 k 5), .int (σ.1 k 6), .ref (h + (k + 1)), .ref (h + (k + 2)), .ref (h + (k + 4)), .int (σ.1 k 10), .long (σ.2.1 k 11), .long (σ.2.1 k 12), .int (σ.1 k 13), .int (σ.1 k 14), .int (σ.1 k 15), .int (σ.1 k 16)]) (mk_1 hk) (by simp) (by rw [mk_1 hk]; simp [uI]) (uI_off σ k 5 x)
theorem g_1_6 {h : Nat} {σ : SG} {k : Nat} (hk : kd k = 1) : gI (HH h σ) (h + k) 1 6 = some (σ.1 k 6) := by
  simp [gI, gV, HH_at, mk, hk]
theorem p_1_6 {h : Nat} {σ : SG} {k : Nat} (hk : kd k = 1) (x : Int32) : pV (HH h σ) (h + k) 1 6 (.int x) = some (HH h (uI σ k 6 x)) := pV_HH (fs := [.int (σ.1 k 0), .int (σ.1 k 1), .int (σ.1 k 2), .int (σ.1 k 3), .int (σ.1 k 4), .int (σ.1 k 5), .int (σ.1 k 6), .ref (h + (k + 1)), .ref (h + (k + 2)), .ref (h + (k + 4)), .int (σ.1 k 10), .long (σ.2.1 k 11), .long (σ.2.1 k 12), .int (σ.1 k 13), .int (σ.1 k 14), .int (σ.1 k 15), .int (σ.1 k 16)]) (mk_1 hk) (by simp) (by rw [mk_1 hk]; simp [uI]) (uI_off σ k 6 x)
theorem g_1_7 {h : Nat} {σ : SG} {k : Nat} (hk : kd k = 1) : gR (HH h σ) (h + k) 1 7 = some (h + (k + 1)) := by
  simp [gR, gV, HH_at, mk, hk]
theorem g_1_8 {h : Nat} {σ : SG} {k : Nat} (hk : kd k = 1) : gR (HH h σ) (h + k) 1 8 = some (h + (k + 2)) := by
  simp [gR, gV, HH_at, mk, hk]
theorem g_1_9 {h : Nat} {σ : SG} {k : Nat} (hk : kd k = 1) : gR (HH h σ) (h + k) 1 9 = some (h + (k + 4)) := by
  simp [gR, gV, HH_at, mk, hk]
theorem g_1_10 {h : Nat} {σ : SG} {k : Nat} (hk : kd k = 1) : gI (HH h σ) (h + k) 1 10 = some (σ.1 k 10) := by
  simp [gI, gV, HH_at, mk, hk]
theorem p_1_10 {h : Nat} {σ : SG} {k : Nat} (hk : kd k = 1) (x : Int32) : pV (HH h σ) (h + k) 1 10 (.int x) = some (HH h (uI σ k 10 x)) := pV_HH (fs := [.int (σ.1 k 0), .int (σ.1 k 1), .int (σ.1 k 2), .int (σ.1 k 3), .int (σ.1 k 4), .int (σ.1 k 5), .int (σ.1 k 6), .ref (h + (k + 1)), .ref (h + (k + 2)), .ref (h + (k + 4)), .int (σ.1 k 10), .long (σ.2.1 k 11), .long (σ.2.1 k 12), .int (σ.1 k 13), .int (σ.1 k 14), .int (σ.1 k 15), .int (σ.1 k 16)]) (mk_1 hk) (by simp) (by rw [mk_1 hk]; simp [uI]) (uI_off σ k 10 x)
theorem g_1_11 {h : Nat} {σ : SG} {k : Nat} (hk : kd k = 1) : gL (HH h σ) (h + k) 1 11 = some (σ.2.1 k 11) := by
  simp [gL, gV, HH_at, mk, hk]
theorem p_1_11 {h : Nat} {σ : SG} {k : Nat} (hk : kd k = 1) (x : Int64) : pV (HH h σ) (h + k) 1 11 (.long x) = some (HH h (uG σ k 11 x)) := pV_HH (fs := [.int (σ.1 k 0), .int (σ.1 k 1), .int (σ.1 k 2), .int (σ.1 k 3), .int (σ.1 k 4), .int (σ.1 k 5), .int (σ.1 k 6), .ref (h + (k + 1)), .ref (h + (k + 2)), .ref (h + (k + 4)), .int (σ.1 k 10), .long (σ.2.1 k 11), .long (σ.2.1 k 12), .int (σ.1 k 13), .int (σ.1 k 14), .int (σ.1 k 15), .int (σ.1 k 16)]) (mk_1 hk) (by simp) (by rw [mk_1 hk]; simp [uG]) (uG_off σ k 11 x)
theorem g_1_12 {h : Nat} {σ : SG} {k : Nat} (hk : kd k = 1) : gL (HH h σ) (h + k) 1 12 = some (σ.2.1 k 12) := by
  simp [gL, gV, HH_at, mk, hk]
theorem p_1_12 {h : Nat} {σ : SG} {k : Nat} (hk : kd k = 1) (x : Int64) : pV (HH h σ) (h + k) 1 12 (.long x) = some (HH h (uG σ k 12 x)) := pV_HH (fs := [.int (σ.1 k 0), .int (σ.1 k 1), .int (σ.1 k 2), .int (σ.1 k 3), .int (σ.1 k 4), .int (σ.1 k 5), .int (σ.1 k 6), .ref (h + (k + 1)), .ref (h + (k + 2)), .ref (h + (k + 4)), .int (σ.1 k 10), .long (σ.2.1 k 11), .long (σ.2.1 k 12), .int (σ.1 k 13), .int (σ.1 k 14), .int (σ.1 k 15), .int (σ.1 k 16)]) (mk_1 hk) (by simp) (by rw [mk_1 hk]; simp [uG]) (uG_off σ k 12 x)
theorem g_1_13 {h : Nat} {σ : SG} {k : Nat} (hk : kd k = 1) : gI (HH h σ) (h + k) 1 13 = some (σ.1 k 13) := by
  simp [gI, gV, HH_at, mk, hk]
theorem p_1_13 {h : Nat} {σ : SG} {k : Nat} (hk : kd k = 1) (x : Int32) : pV (HH h σ) (h + k) 1 13 (.int x) = some (HH h (uI σ k 13 x)) := pV_HH (fs := [.int (σ.1 k 0), .int (σ.1 k 1), .int (σ.1 k 2), .int (σ.1 k 3), .int (σ.1 k 4), .int (σ.1 k 5), .int (σ.1 k 6), .ref (h + (k + 1)), .ref (h + (k + 2)), .ref (h + (k + 4)), .int (σ.1 k 10), .long (σ.2.1 k 11), .long (σ.2.1 k 12), .int (σ.1 k 13), .int (σ.1 k 14), .int (σ.1 k 15), .int (σ.1 k 16)]) (mk_1 hk) (by simp) (by rw [mk_1 hk]; simp [uI]) (uI_off σ k 13 x)
theorem g_1_14 {h : Nat} {σ : SG} {k : Nat} (hk : kd k = 1) : gI (HH h σ) (h + k) 1 14 = some (σ.1 k 14) := by
  simp [gI, gV, HH_at, mk, hk]
theorem p_1_14 {h : Nat} {σ : SG} {k : Nat} (hk : kd k = 1) (x : Int32) : pV (HH h σ) (h + k) 1 14 (.int x) = some (HH h (uI σ k 14 x)) := pV_HH (fs := [.int (σ.1 k 0), .int (σ.1 k 1), .int (σ.1 k 2), .int (σ.1 k 3), .int (σ.1 k 4), .int (σ.1 k 5), .int (σ.1 k 6), .ref (h + (k + 1)), .ref (h + (k + 2)), .ref (h + (k + 4)), .int (σ.1 k 10), .long (σ.2.1 k 11), .long (σ.2.1 k 12), .int (σ.1 k 13), .int (σ.1 k 14), .int (σ.1 k 15), .int (σ.1 k 16)]) (mk_1 hk) (by simp) (by rw [mk_1 hk]; simp [uI]) (uI_off σ k 14 x)
theorem g_1_15 {h : Nat} {σ : SG} {k : Nat} (hk : kd k = 1) : gI (HH h σ) (h + k) 1 15 = some (σ.1 k 15) := by
  simp [gI, gV, HH_at, mk, hk]
theorem p_1_15 {h : Nat} {σ : SG} {k : Nat} (hk : kd k = 1) (x : Int32) : pV (HH h σ) (h + k) 1 15 (.int x) = some (HH h (uI σ k 15 x)) := pV_HH (fs := [.int (σ.1 k 0), .int (σ.1 k 1), .int (σ.1 k 2), .int (σ.1 k 3), .int (σ.1 k 4), .int (σ.1 k 5), .int (σ.1 k 6), .ref (h + (k + 1)), .ref (h + (k + 2)), .ref (h + (k + 4)), .int (σ.1 k 10), .long (σ.2.1 k 11), .long (σ.2.1 k 12), .int (σ.1 k 13), .int (σ.1 k 14), .int (σ.1 k 15), .int (σ.1 k 16)]) (mk_1 hk) (by simp) (by rw [mk_1 hk]; simp [uI]) (uI_off σ k 15 x)
theorem g_1_16 {h : Nat} {σ : SG} {k : Nat} (hk : kd k = 1) : gI (HH h σ) (h + k) 1 16 = some (σ.1 k 16) := by
  simp [gI, gV, HH_at, mk, hk]
theorem p_1_16 {h : Nat} {σ : SG} {k : Nat} (hk : kd k = 1) (x : Int32) : pV (HH h σ) (h + k) 1 16 (.int x) = some (HH h (uI σ k 16 x)) := pV_HH (fs := [.int (σ.1 k 0), .int (σ.1 k 1), .int (σ.1 k 2), .int (σ.1 k 3), .int (σ.1 k 4), .int (σ.1 k 5), .int (σ.1 k 6), .ref (h + (k + 1)), .ref (h + (k + 2)), .ref (h + (k + 4)), .int (σ.1 k 10), .long (σ.2.1 k 11), .long (σ.2.1 k 12), .int (σ.1 k 13), .int (σ.1 k 14), .int (σ.1 k 15), .int (σ.1 k 16)]) (mk_1 hk) (by simp) (by rw [mk_1 hk]; simp [uI]) (uI_off σ k 16 x)
theorem mk_2 {h : Nat} {σ : SG} {k : Nat} (hk : kd k = 2) : mk h σ k = some (.inr (2, [.ref (h + (k + 1)), .int (σ.1 k 1), .int (σ.1 k 2)])) := by
  simp only [mk, hk]
theorem ck_2 {h : Nat} {σ : SG} {k : Nat} (hk : kd k = 2) : ck (HH h σ) (h + k) 2 = some () := by
  simp [ck, HH_at, mk, hk]
theorem g_2_0 {h : Nat} {σ : SG} {k : Nat} (hk : kd k = 2) : gR (HH h σ) (h + k) 2 0 = some (h + (k + 1)) := by
  simp [gR, gV, HH_at, mk, hk]
theorem g_2_1 {h : Nat} {σ : SG} {k : Nat} (hk : kd k = 2) : gI (HH h σ) (h + k) 2 1 = some (σ.1 k 1) := by
  simp [gI, gV, HH_at, mk, hk]
theorem p_2_1 {h : Nat} {σ : SG} {k : Nat} (hk : kd k = 2) (x : Int32) : pV (HH h σ) (h + k) 2 1 (.int x) = some (HH h (uI σ k 1 x)) := pV_HH (fs := [.ref (h + (k + 1)), .int (σ.1 k 1), .int (σ.1 k 2)]) (mk_2 hk) (by simp) (by rw [mk_2 hk]; simp [uI]) (uI_off σ k 1 x)
theorem g_2_2 {h : Nat} {σ : SG} {k : Nat} (hk : kd k = 2) : gI (HH h σ) (h + k) 2 2 = some (σ.1 k 2) := by
  simp [gI, gV, HH_at, mk, hk]
theorem p_2_2 {h : Nat} {σ : SG} {k : Nat} (hk : kd k = 2) (x : Int32) : pV (HH h σ) (h + k) 2 2 (.int x) = some (HH h (uI σ k 2 x)) := pV_HH (fs := [.ref (h + (k + 1)), .int (σ.1 k 1), .int (σ.1 k 2)]) (mk_2 hk) (by simp) (by rw [mk_2 hk]; simp [uI]) (uI_off σ k 2 x)
theorem mk_3 {h : Nat} {σ : SG} {k : Nat} (hk : kd k = 3) : mk h σ k = some (.inr (3, [.ref (h + 1), .ref (h + 259)])) := by
  simp only [mk, hk]
theorem ck_3 {h : Nat} {σ : SG} {k : Nat} (hk : kd k = 3) : ck (HH h σ) (h + k) 3 = some () := by
  simp [ck, HH_at, mk, hk]
theorem g_3_0 {h : Nat} {σ : SG} {k : Nat} (hk : kd k = 3) : gR (HH h σ) (h + k) 3 0 = some (h + 1) := by
  simp [gR, gV, HH_at, mk, hk]
theorem g_3_1 {h : Nat} {σ : SG} {k : Nat} (hk : kd k = 3) : gR (HH h σ) (h + k) 3 1 = some (h + 259) := by
  simp [gR, gV, HH_at, mk, hk]
theorem mk_4 {h : Nat} {σ : SG} {k : Nat} (hk : kd k = 4) : mk h σ k = some (.inr (4, [.ref (h + (k + 1)), .int (σ.1 k 1)])) := by
  simp only [mk, hk]
theorem ck_4 {h : Nat} {σ : SG} {k : Nat} (hk : kd k = 4) : ck (HH h σ) (h + k) 4 = some () := by
  simp [ck, HH_at, mk, hk]
theorem g_4_0 {h : Nat} {σ : SG} {k : Nat} (hk : kd k = 4) : gR (HH h σ) (h + k) 4 0 = some (h + (k + 1)) := by
  simp [gR, gV, HH_at, mk, hk]
theorem g_4_1 {h : Nat} {σ : SG} {k : Nat} (hk : kd k = 4) : gI (HH h σ) (h + k) 4 1 = some (σ.1 k 1) := by
  simp [gI, gV, HH_at, mk, hk]
theorem p_4_1 {h : Nat} {σ : SG} {k : Nat} (hk : kd k = 4) (x : Int32) : pV (HH h σ) (h + k) 4 1 (.int x) = some (HH h (uI σ k 1 x)) := pV_HH (fs := [.ref (h + (k + 1)), .int (σ.1 k 1)]) (mk_4 hk) (by simp) (by rw [mk_4 hk]; simp [uI]) (uI_off σ k 1 x)
theorem mk_5 {h : Nat} {σ : SG} {k : Nat} (hk : kd k = 5) : mk h σ k = some (.inr (5, [.ref (h + 2), .int (σ.1 k 1)])) := by
  simp only [mk, hk]
theorem ck_5 {h : Nat} {σ : SG} {k : Nat} (hk : kd k = 5) : ck (HH h σ) (h + k) 5 = some () := by
  simp [ck, HH_at, mk, hk]
theorem g_5_0 {h : Nat} {σ : SG} {k : Nat} (hk : kd k = 5) : gR (HH h σ) (h + k) 5 0 = some (h + 2) := by
  simp [gR, gV, HH_at, mk, hk]
theorem g_5_1 {h : Nat} {σ : SG} {k : Nat} (hk : kd k = 5) : gI (HH h σ) (h + k) 5 1 = some (σ.1 k 1) := by
  simp [gI, gV, HH_at, mk, hk]
theorem p_5_1 {h : Nat} {σ : SG} {k : Nat} (hk : kd k = 5) (x : Int32) : pV (HH h σ) (h + k) 5 1 (.int x) = some (HH h (uI σ k 1 x)) := pV_HH (fs := [.ref (h + 2), .int (σ.1 k 1)]) (mk_5 hk) (by simp) (by rw [mk_5 hk]; simp [uI]) (uI_off σ k 1 x)
theorem mk_6 {h : Nat} {σ : SG} {k : Nat} (hk : kd k = 6) : mk h σ k = some (.inr (6, [.ref (h + 244)])) := by
  simp only [mk, hk]
theorem ck_6 {h : Nat} {σ : SG} {k : Nat} (hk : kd k = 6) : ck (HH h σ) (h + k) 6 = some () := by
  simp [ck, HH_at, mk, hk]
theorem g_6_0 {h : Nat} {σ : SG} {k : Nat} (hk : kd k = 6) : gR (HH h σ) (h + k) 6 0 = some (h + 244) := by
  simp [gR, gV, HH_at, mk, hk]
theorem mk_7 {h : Nat} {σ : SG} {k : Nat} (hk : kd k = 7) : mk h σ k = some (.inr (7, [.ref (h + 1), .ref (h + 254), .ref (h + 256)])) := by
  simp only [mk, hk]
theorem ck_7 {h : Nat} {σ : SG} {k : Nat} (hk : kd k = 7) : ck (HH h σ) (h + k) 7 = some () := by
  simp [ck, HH_at, mk, hk]
theorem g_7_0 {h : Nat} {σ : SG} {k : Nat} (hk : kd k = 7) : gR (HH h σ) (h + k) 7 0 = some (h + 1) := by
  simp [gR, gV, HH_at, mk, hk]
theorem g_7_1 {h : Nat} {σ : SG} {k : Nat} (hk : kd k = 7) : gR (HH h σ) (h + k) 7 1 = some (h + 254) := by
  simp [gR, gV, HH_at, mk, hk]
theorem g_7_2 {h : Nat} {σ : SG} {k : Nat} (hk : kd k = 7) : gR (HH h σ) (h + k) 7 2 = some (h + 256) := by
  simp [gR, gV, HH_at, mk, hk]
theorem mk_8 {h : Nat} {σ : SG} {k : Nat} (hk : kd k = 8) : mk h σ k = some (.inr (8, [.ref (h + 1), .ref (h + 243), .ref (h + 246), .ref (h + 253), .ref (h + 258), .ref (h + 261), .ref (h + 268)])) := by
  simp only [mk, hk]
theorem ck_8 {h : Nat} {σ : SG} {k : Nat} (hk : kd k = 8) : ck (HH h σ) (h + k) 8 = some () := by
  simp [ck, HH_at, mk, hk]
theorem g_8_0 {h : Nat} {σ : SG} {k : Nat} (hk : kd k = 8) : gR (HH h σ) (h + k) 8 0 = some (h + 1) := by
  simp [gR, gV, HH_at, mk, hk]
theorem g_8_1 {h : Nat} {σ : SG} {k : Nat} (hk : kd k = 8) : gR (HH h σ) (h + k) 8 1 = some (h + 243) := by
  simp [gR, gV, HH_at, mk, hk]
theorem g_8_2 {h : Nat} {σ : SG} {k : Nat} (hk : kd k = 8) : gR (HH h σ) (h + k) 8 2 = some (h + 246) := by
  simp [gR, gV, HH_at, mk, hk]
theorem g_8_3 {h : Nat} {σ : SG} {k : Nat} (hk : kd k = 8) : gR (HH h σ) (h + k) 8 3 = some (h + 253) := by
  simp [gR, gV, HH_at, mk, hk]
theorem g_8_4 {h : Nat} {σ : SG} {k : Nat} (hk : kd k = 8) : gR (HH h σ) (h + k) 8 4 = some (h + 258) := by
  simp [gR, gV, HH_at, mk, hk]
theorem g_8_5 {h : Nat} {σ : SG} {k : Nat} (hk : kd k = 8) : gR (HH h σ) (h + k) 8 5 = some (h + 261) := by
  simp [gR, gV, HH_at, mk, hk]
theorem g_8_6 {h : Nat} {σ : SG} {k : Nat} (hk : kd k = 8) : gR (HH h σ) (h + k) 8 6 = some (h + 268) := by
  simp [gR, gV, HH_at, mk, hk]
theorem mk_9 {h : Nat} {σ : SG} {k : Nat} (hk : kd k = 9) : mk h σ k = some (.inr (9, [.int (σ.1 k 0), .int (σ.1 k 1), .ref (h + 276), .ref (h + 277), .ref (h + 278), .ref (h + 279), .ref (h + 280), .ref (h + 281), .ref (h + 282), .ref (h + 283), .ref (h + 284), .ref (h + 285), .ref (h + 286), .ref (h + 287), .ref (h + 288), .ref (h + 289), .ref (h + 290), .ref (h + 291), .ref (h + 292), .ref (h + 293), .ref (h + 294), .ref (h + 295), .ref (h + 296), .ref (h + 297), .ref (h + 298), .ref (h + 299), .int (σ.1 k 26), .ref (h + 300), .int (σ.1 k 28), .ref (h + 301), .int (σ.1 k 30), .ref (h + 302), .ref (h + 303), .int (σ.1 k 33), .ref (h + 304), .int (σ.1 k 35), .ref (h + 305), .int (σ.1 k 37)])) := by
  simp only [mk, hk]
theorem ck_9 {h : Nat} {σ : SG} {k : Nat} (hk : kd k = 9) : ck (HH h σ) (h + k) 9 = some () := by
  simp [ck, HH_at, mk, hk]
theorem g_9_0 {h : Nat} {σ : SG} {k : Nat} (hk : kd k = 9) : gI (HH h σ) (h + k) 9 0 = some (σ.1 k 0) := by
  simp [gI, gV, HH_at, mk, hk]
theorem p_9_0 {h : Nat} {σ : SG} {k : Nat} (hk : kd k = 9) (x : Int32) : pV (HH h σ) (h + k) 9 0 (.int x) = some (HH h (uI σ k 0 x)) := pV_HH (fs := [.int (σ.1 k 0), .int (σ.1 k 1), .ref (h + 276), .ref (h + 277), .ref (h + 278), .ref (h + 279), .ref (h + 280), .ref (h + 281), .ref (h + 282), .ref (h + 283), .ref (h + 284), .ref (h + 285), .ref (h + 286), .ref (h + 287), .ref (h + 288), .ref (h + 289), .ref (h + 290), .ref (h + 291), .ref (h + 292), .ref (h + 293), .ref (h + 294), .ref (h + 295), .ref (h + 296), .ref (h + 297), .ref (h + 298), .ref (h + 299), .int (σ.1 k 26), .ref (h + 300), .int (σ.1 k 28), .ref (h + 301), .int (σ.1 k 30), .ref (h + 302), .ref (h + 303), .int (σ.1 k 33), .ref (h + 304), .int (σ.1 k 35), .ref (h + 305), .int (σ.1 k 37)]) (mk_9 hk) (by simp) (by rw [mk_9 hk]; simp [uI]) (uI_off σ k 0 x)
theorem g_9_1 {h : Nat} {σ : SG} {k : Nat} (hk : kd k = 9) : gI (HH h σ) (h + k) 9 1 = some (σ.1 k 1) := by
  simp [gI, gV, HH_at, mk, hk]
theorem p_9_1 {h : Nat} {σ : SG} {k : Nat} (hk : kd k = 9) (x : Int32) : pV (HH h σ) (h + k) 9 1 (.int x) = some (HH h (uI σ k 1 x)) := pV_HH (fs := [.int (σ.1 k 0), .int (σ.1 k 1), .ref (h + 276), .ref (h + 277), .ref (h + 278), .ref (h + 279), .ref (h + 280), .ref (h + 281), .ref (h + 282), .ref (h + 283), .ref (h + 284), .ref (h + 285), .ref (h + 286), .ref (h + 287), .ref (h + 288), .ref (h + 289), .ref (h + 290), .ref (h + 291), .ref (h + 292), .ref (h + 293), .ref (h + 294), .ref (h + 295), .ref (h + 296), .ref (h + 297), .ref (h + 298), .ref (h + 299), .int (σ.1 k 26), .ref (h + 300), .int (σ.1 k 28), .ref (h + 301), .int (σ.1 k 30), .ref (h + 302), .ref (h + 303), .int (σ.1 k 33), .ref (h + 304), .int (σ.1 k 35), .ref (h + 305), .int (σ.1 k 37)]) (mk_9 hk) (by simp) (by rw [mk_9 hk]; simp [uI]) (uI_off σ k 1 x)
theorem g_9_2 {h : Nat} {σ : SG} {k : Nat} (hk : kd k = 9) : gR (HH h σ) (h + k) 9 2 = some (h + 276) := by
  simp [gR, gV, HH_at, mk, hk]
theorem g_9_3 {h : Nat} {σ : SG} {k : Nat} (hk : kd k = 9) : gR (HH h σ) (h + k) 9 3 = some (h + 277) := by
  simp [gR, gV, HH_at, mk, hk]
theorem g_9_4 {h : Nat} {σ : SG} {k : Nat} (hk : kd k = 9) : gR (HH h σ) (h + k) 9 4 = some (h + 278) := by
  simp [gR, gV, HH_at, mk, hk]
theorem g_9_5 {h : Nat} {σ : SG} {k : Nat} (hk : kd k = 9) : gR (HH h σ) (h + k) 9 5 = some (h + 279) := by
  simp [gR, gV, HH_at, mk, hk]
theorem g_9_6 {h : Nat} {σ : SG} {k : Nat} (hk : kd k = 9) : gR (HH h σ) (h + k) 9 6 = some (h + 280) := by
  simp [gR, gV, HH_at, mk, hk]
theorem g_9_7 {h : Nat} {σ : SG} {k : Nat} (hk : kd k = 9) : gR (HH h σ) (h + k) 9 7 = some (h + 281) := by
  simp [gR, gV, HH_at, mk, hk]
theorem g_9_8 {h : Nat} {σ : SG} {k : Nat} (hk : kd k = 9) : gR (HH h σ) (h + k) 9 8 = some (h + 282) := by
  simp [gR, gV, HH_at, mk, hk]
theorem g_9_9 {h : Nat} {σ : SG} {k : Nat} (hk : kd k = 9) : gR (HH h σ) (h + k) 9 9 = some (h + 283) := by
  simp [gR, gV, HH_at, mk, hk]
theorem g_9_10 {h : Nat} {σ : SG} {k : Nat} (hk : kd k = 9) : gR (HH h σ) (h + k) 9 10 = some (h + 284) := by
  simp [gR, gV, HH_at, mk, hk]
theorem g_9_11 {h : Nat} {σ : SG} {k : Nat} (hk : kd k = 9) : gR (HH h σ) (h + k) 9 11 = some (h + 285) := by
  simp [gR, gV, HH_at, mk, hk]
theorem g_9_12 {h : Nat} {σ : SG} {k : Nat} (hk : kd k = 9) : gR (HH h σ) (h + k) 9 12 = some (h + 286) := by
  simp [gR, gV, HH_at, mk, hk]
theorem g_9_13 {h : Nat} {σ : SG} {k : Nat} (hk : kd k = 9) : gR (HH h σ) (h + k) 9 13 = some (h + 287) := by
  simp [gR, gV, HH_at, mk, hk]
theorem g_9_14 {h : Nat} {σ : SG} {k : Nat} (hk : kd k = 9) : gR (HH h σ) (h + k) 9 14 = some (h + 288) := by
  simp [gR, gV, HH_at, mk, hk]
theorem g_9_15 {h : Nat} {σ : SG} {k : Nat} (hk : kd k = 9) : gR (HH h σ) (h + k) 9 15 = some (h + 289) := by
  simp [gR, gV, HH_at, mk, hk]
theorem g_9_16 {h : Nat} {σ : SG} {k : Nat} (hk : kd k = 9) : gR (HH h σ) (h + k) 9 16 = some (h + 290) := by
  simp [gR, gV, HH_at, mk, hk]
theorem g_9_17 {h : Nat} {σ : SG} {k : Nat} (hk : kd k = 9) : gR (HH h σ) (h + k) 9 17 = some (h + 291) := by
  simp [gR, gV, HH_at, mk, hk]
theorem g_9_18 {h : Nat} {σ : SG} {k : Nat} (hk : kd k = 9) : gR (HH h σ) (h + k) 9 18 = some (h + 292) := by
  simp [gR, gV, HH_at, mk, hk]
theorem g_9_19 {h : Nat} {σ : SG} {k : Nat} (hk : kd k = 9) : gR (HH h σ) (h + k) 9 19 = some (h + 293) := by
  simp [gR, gV, HH_at, mk, hk]
theorem g_9_20 {h : Nat} {σ : SG} {k : Nat} (hk : kd k = 9) : gR (HH h σ) (h + k) 9 20 = some (h + 294) := by
  simp [gR, gV, HH_at, mk, hk]
theorem g_9_21 {h : Nat} {σ : SG} {k : Nat} (hk : kd k = 9) : gR (HH h σ) (h + k) 9 21 = some (h + 295) := by
  simp [gR, gV, HH_at, mk, hk]
theorem g_9_22 {h : Nat} {σ : SG} {k : Nat} (hk : kd k = 9) : gR (HH h σ) (h + k) 9 22 = some (h + 296) := by
  simp [gR, gV, HH_at, mk, hk]
theorem g_9_23 {h : Nat} {σ : SG} {k : Nat} (hk : kd k = 9) : gR (HH h σ) (h + k) 9 23 = some (h + 297) := by
  simp [gR, gV, HH_at, mk, hk]
theorem g_9_24 {h : Nat} {σ : SG} {k : Nat} (hk : kd k = 9) : gR (HH h σ) (h + k) 9 24 = some (h + 298) := by
  simp [gR, gV, HH_at, mk, hk]
theorem g_9_25 {h : Nat} {σ : SG} {k : Nat} (hk : kd k = 9) : gR (HH h σ) (h + k) 9 25 = some (h + 299) := by
  simp [gR, gV, HH_at, mk, hk]
theorem g_9_26 {h : Nat} {σ : SG} {k : Nat} (hk : kd k = 9) : gI (HH h σ) (h + k) 9 26 = some (σ.1 k 26) := by
  simp [gI, gV, HH_at, mk, hk]
theorem p_9_26 {h : Nat} {σ : SG} {k : Nat} (hk : kd k = 9) (x : Int32) : pV (HH h σ) (h + k) 9 26 (.int x) = some (HH h (uI σ k 26 x)) := pV_HH (fs := [.int (σ.1 k 0), .int (σ.1 k 1), .ref (h + 276), .ref (h + 277), .ref (h + 278), .ref (h + 279), .ref (h + 280), .ref (h + 281), .ref (h + 282), .ref (h + 283), .ref (h + 284), .ref (h + 285), .ref (h + 286), .ref (h + 287), .ref (h + 288), .ref (h + 289), .ref (h + 290), .ref (h + 291), .ref (h + 292), .ref (h + 293), .ref (h + 294), .ref (h + 295), .ref (h + 296), .ref (h + 297), .ref (h + 298), .ref (h + 299), .int (σ.1 k 26), .ref (h + 300), .int (σ.1 k 28), .ref (h + 301), .int (σ.1 k 30), .ref (h + 302), .ref (h + 303), .int (σ.1 k 33), .ref (h + 304), .int (σ.1 k 35), .ref (h + 305), .int (σ.1 k 37)]) (mk_9 hk) (by simp) (by rw [mk_9 hk]; simp [uI]) (uI_off σ k 26 x)
theorem g_9_27 {h : Nat} {σ : SG} {k : Nat} (hk : kd k = 9) : gR (HH h σ) (h + k) 9 27 = some (h + 300) := by
  simp [gR, gV, HH_at, mk, hk]
theorem g_9_28 {h : Nat} {σ : SG} {k : Nat} (hk : kd k = 9) : gI (HH h σ) (h + k) 9 28 = some (σ.1 k 28) := by
  simp [gI, gV, HH_at, mk, hk]
theorem p_9_28 {h : Nat} {σ : SG} {k : Nat} (hk : kd k = 9) (x : Int32) : pV (HH h σ) (h + k) 9 28 (.int x) = some (HH h (uI σ k 28 x)) := pV_HH (fs := [.int (σ.1 k 0), .int (σ.1 k 1), .ref (h + 276), .ref (h + 277), .ref (h + 278), .ref (h + 279), .ref (h + 280), .ref (h + 281), .ref (h + 282), .ref (h + 283), .ref (h + 284), .ref (h + 285), .ref (h + 286), .ref (h + 287), .ref (h + 288), .ref (h + 289), .ref (h + 290), .ref (h + 291), .ref (h + 292), .ref (h + 293), .ref (h + 294), .ref (h + 295), .ref (h + 296), .ref (h + 297), .ref (h + 298), .ref (h + 299), .int (σ.1 k 26), .ref (h + 300), .int (σ.1 k 28), .ref (h + 301), .int (σ.1 k 30), .ref (h + 302), .ref (h + 303), .int (σ.1 k 33), .ref (h + 304), .int (σ.1 k 35), .ref (h + 305), .int (σ.1 k 37)]) (mk_9 hk) (by simp) (by rw [mk_9 hk]; simp [uI]) (uI_off σ k 28 x)
theorem g_9_29 {h : Nat} {σ : SG} {k : Nat} (hk : kd k = 9) : gR (HH h σ) (h + k) 9 29 = some (h + 301) := by
  simp [gR, gV, HH_at, mk, hk]
theorem g_9_30 {h : Nat} {σ : SG} {k : Nat} (hk : kd k = 9) : gI (HH h σ) (h + k) 9 30 = some (σ.1 k 30) := by
  simp [gI, gV, HH_at, mk, hk]
theorem p_9_30 {h : Nat} {σ : SG} {k : Nat} (hk : kd k = 9) (x : Int32) : pV (HH h σ) (h + k) 9 30 (.int x) = some (HH h (uI σ k 30 x)) := pV_HH (fs := [.int (σ.1 k 0), .int (σ.1 k 1), .ref (h + 276), .ref (h + 277), .ref (h + 278), .ref (h + 279), .ref (h + 280), .ref (h + 281), .ref (h + 282), .ref (h + 283), .ref (h + 284), .ref (h + 285), .ref (h + 286), .ref (h + 287), .ref (h + 288), .ref (h + 289), .ref (h + 290), .ref (h + 291), .ref (h + 292), .ref (h + 293), .ref (h + 294), .ref (h + 295), .ref (h + 296), .ref (h + 297), .ref (h + 298), .ref (h + 299), .int (σ.1 k 26), .ref (h + 300), .int (σ.1 k 28), .ref (h + 301), .int (σ.1 k 30), .ref (h + 302), .ref (h + 303), .int (σ.1 k 33), .ref (h + 304), .int (σ.1 k 35), .ref (h + 305), .int (σ.1 k 37)]) (mk_9 hk) (by simp) (by rw [mk_9 hk]; simp [uI]) (uI_off σ k 30 x)
theorem g_9_31 {h : Nat} {σ : SG} {k : Nat} (hk : kd k = 9) : gR (HH h σ) (h + k) 9 31 = some (h + 302) := by
  simp [gR, gV, HH_at, mk, hk]
theorem g_9_32 {h : Nat} {σ : SG} {k : Nat} (hk : kd k = 9) : gR (HH h σ) (h + k) 9 32 = some (h + 303) := by
  simp [gR, gV, HH_at, mk, hk]
theorem g_9_33 {h : Nat} {σ : SG} {k : Nat} (hk : kd k = 9) : gI (HH h σ) (h + k) 9 33 = some (σ.1 k 33) := by
  simp [gI, gV, HH_at, mk, hk]
theorem p_9_33 {h : Nat} {σ : SG} {k : Nat} (hk : kd k = 9) (x : Int32) : pV (HH h σ) (h + k) 9 33 (.int x) = some (HH h (uI σ k 33 x)) := pV_HH (fs := [.int (σ.1 k 0), .int (σ.1 k 1), .ref (h + 276), .ref (h + 277), .ref (h + 278), .ref (h + 279), .ref (h + 280), .ref (h + 281), .ref (h + 282), .ref (h + 283), .ref (h + 284), .ref (h + 285), .ref (h + 286), .ref (h + 287), .ref (h + 288), .ref (h + 289), .ref (h + 290), .ref (h + 291), .ref (h + 292), .ref (h + 293), .ref (h + 294), .ref (h + 295), .ref (h + 296), .ref (h + 297), .ref (h + 298), .ref (h + 299), .int (σ.1 k 26), .ref (h + 300), .int (σ.1 k 28), .ref (h + 301), .int (σ.1 k 30), .ref (h + 302), .ref (h + 303), .int (σ.1 k 33), .ref (h + 304), .int (σ.1 k 35), .ref (h + 305), .int (σ.1 k 37)]) (mk_9 hk) (by simp) (by rw [mk_9 hk]; simp [uI]) (uI_off σ k 33 x)
theorem g_9_34 {h : Nat} {σ : SG} {k : Nat} (hk : kd k = 9) : gR (HH h σ) (h + k) 9 34 = some (h + 304) := by
  simp [gR, gV, HH_at, mk, hk]
theorem g_9_35 {h : Nat} {σ : SG} {k : Nat} (hk : kd k = 9) : gI (HH h σ) (h + k) 9 35 = some (σ.1 k 35) := by
  simp [gI, gV, HH_at, mk, hk]
theorem p_9_35 {h : Nat} {σ : SG} {k : Nat} (hk : kd k = 9) (x : Int32) : pV (HH h σ) (h + k) 9 35 (.int x) = some (HH h (uI σ k 35 x)) := pV_HH (fs := [.int (σ.1 k 0), .int (σ.1 k 1), .ref (h + 276), .ref (h + 277), .ref (h + 278), .ref (h + 279), .ref (h + 280), .ref (h + 281), .ref (h + 282), .ref (h + 283), .ref (h + 284), .ref (h + 285), .ref (h + 286), .ref (h + 287), .ref (h + 288), .ref (h + 289), .ref (h + 290), .ref (h + 291), .ref (h + 292), .ref (h + 293), .ref (h + 294), .ref (h + 295), .ref (h + 296), .ref (h + 297), .ref (h + 298), .ref (h + 299), .int (σ.1 k 26), .ref (h + 300), .int (σ.1 k 28), .ref (h + 301), .int (σ.1 k 30), .ref (h + 302), .ref (h + 303), .int (σ.1 k 33), .ref (h + 304), .int (σ.1 k 35), .ref (h + 305), .int (σ.1 k 37)]) (mk_9 hk) (by simp) (by rw [mk_9 hk]; simp [uI]) (uI_off σ k 35 x)
theorem g_9_36 {h : Nat} {σ : SG} {k : Nat} (hk : kd k = 9) : gR (HH h σ) (h + k) 9 36 = some (h + 305) := by
  simp [gR, gV, HH_at, mk, hk]
theorem g_9_37 {h : Nat} {σ : SG} {k : Nat} (hk : kd k = 9) : gI (HH h σ) (h + k) 9 37 = some (σ.1 k 37) := by
  simp [gI, gV, HH_at, mk, hk]
theorem p_9_37 {h : Nat} {σ : SG} {k : Nat} (hk : kd k = 9) (x : Int32) : pV (HH h σ) (h + k) 9 37 (.int x) = some (HH h (uI σ k 37 x)) := pV_HH (fs := [.int (σ.1 k 0), .int (σ.1 k 1), .ref (h + 276), .ref (h + 277), .ref (h + 278), .ref (h + 279), .ref (h + 280), .ref (h + 281), .ref (h + 282), .ref (h + 283), .ref (h + 284), .ref (h + 285), .ref (h + 286), .ref (h + 287), .ref (h + 288), .ref (h + 289), .ref (h + 290), .ref (h + 291), .ref (h + 292), .ref (h + 293), .ref (h + 294), .ref (h + 295), .ref (h + 296), .ref (h + 297), .ref (h + 298), .ref (h + 299), .int (σ.1 k 26), .ref (h + 300), .int (σ.1 k 28), .ref (h + 301), .int (σ.1 k 30), .ref (h + 302), .ref (h + 303), .int (σ.1 k 33), .ref (h + 304), .int (σ.1 k 35), .ref (h + 305), .int (σ.1 k 37)]) (mk_9 hk) (by simp) (by rw [mk_9 hk]; simp [uI]) (uI_off σ k 37 x)
theorem mk_10 {h : Nat} {σ : SG} {k : Nat} (hk : kd k = 10) : mk h σ k = some (.inl (0, (ln k, .inl (σ.2.2.1 k)))) := by
  simp only [mk, hk]
theorem mk_12 {h : Nat} {σ : SG} {k : Nat} (hk : kd k = 12) : mk h σ k = some (.inl (2, (ln k, .inl (σ.2.2.1 k)))) := by
  simp only [mk, hk]
theorem mk_11 {h : Nat} {σ : SG} {k : Nat} (hk : kd k = 11) : mk h σ k = some (.inl (1, (ln k, .inr (.inl (σ.2.2.2 k))))) := by
  simp only [mk, hk]
theorem al_0 {h : Nat} {σ : SG} {k : Nat} (hk : kd k = 10) : aLen (HH h σ) (h + k) 0 = some (nI (ln k)) := by
  simp [aLen, HH_at, mk, hk]
theorem a_0 {h : Nat} {σ : SG} {k : Nat} (hk : kd k = 10) (i : Int32) : aI (HH h σ) (h + k) 0 i = if ¬ i < 0 ∧ i.toNatClampNeg < ln k then some (σ.2.2.1 k i.toNatClampNeg) else none := by
  simp [aI, HH_at, mk, hk]
theorem s_0 {h : Nat} {σ : SG} {k : Nat} (hk : kd k = 10) (i x : Int32) : sI (HH h σ) (h + k) 0 i x = if ¬ i < 0 ∧ i.toNatClampNeg < ln k then some (HH h (uA σ k i.toNatClampNeg x)) else none := by
  refine sI_HH (z := σ.2.2.1 k) (mk_10 hk) ?_ (uA_off σ k i.toNatClampNeg x)
  rw [mk_10 hk]
  simp only [uA]
  congr 5
  funext j
  simp [upd]
theorem al_2 {h : Nat} {σ : SG} {k : Nat} (hk : kd k = 12) : aLen (HH h σ) (h + k) 2 = some (nI (ln k)) := by
  simp [aLen, HH_at, mk, hk]
theorem a_2 {h : Nat} {σ : SG} {k : Nat} (hk : kd k = 12) (i : Int32) : aI (HH h σ) (h + k) 2 i = if ¬ i < 0 ∧ i.toNatClampNeg < ln k then some (σ.2.2.1 k i.toNatClampNeg) else none := by
  simp [aI, HH_at, mk, hk]
theorem s_2 {h : Nat} {σ : SG} {k : Nat} (hk : kd k = 12) (i x : Int32) : sI (HH h σ) (h + k) 2 i x = if ¬ i < 0 ∧ i.toNatClampNeg < ln k then some (HH h (uA σ k i.toNatClampNeg x)) else none := by
  refine sI_HH (z := σ.2.2.1 k) (mk_12 hk) ?_ (uA_off σ k i.toNatClampNeg x)
  rw [mk_12 hk]
  simp only [uA]
  congr 5
  funext j
  simp [upd]
theorem al_1 {h : Nat} {σ : SG} {k : Nat} (hk : kd k = 11) : aLen (HH h σ) (h + k) 1 = some (nI (ln k)) := by
  simp [aLen, HH_at, mk, hk]
theorem a_1 {h : Nat} {σ : SG} {k : Nat} (hk : kd k = 11) (i : Int32) : aL (HH h σ) (h + k) i = if ¬ i < 0 ∧ i.toNatClampNeg < ln k then some (σ.2.2.2 k i.toNatClampNeg) else none := by
  simp [aL, HH_at, mk, hk]
theorem s_1 {h : Nat} {σ : SG} {k : Nat} (hk : kd k = 11) (i : Int32) (x : Int64) : sL (HH h σ) (h + k) i x = if ¬ i < 0 ∧ i.toNatClampNeg < ln k then some (HH h (uB σ k i.toNatClampNeg x)) else none := by
  refine sL_HH (z := σ.2.2.2 k) (mk_11 hk) ?_ (uB_off σ k i.toNatClampNeg x)
  rw [mk_11 hk]
  simp only [uB]
  congr 6
  funext j
  simp [vp_updL]
theorem al_3 {h : Nat} {σ : SG} {k : Nat} (hk : kd k = 13) : aLen (HH h σ) (h + k) 3 = some (nI (ln k)) := by
  simp [aLen, HH_at, mk, hk]
theorem a_3 {h : Nat} {σ : SG} (i : Int32) : aR (HH h σ) (h + 2) 3 i = if ¬ i < 0 ∧ i.toNatClampNeg < 40 then some (h + (3 + 6 * i.toNatClampNeg)) else none := by
  have hk : kd 2 = 13 := rfl
  have hl : ln 2 = 40 := rfl
  simp only [aR, HH_at, mk, hk, hl]
  by_cases c : ¬ i < 0 ∧ i.toNatClampNeg < 40
  · simp [c]
  · rw [if_neg c, if_neg (fun q => c q.2)]
theorem a_4 {h : Nat} {σ : SG} {k : Nat} (hk : kd k = 14) (hl : ln k = 5) (i : Int32) : aR (HH h σ) (h + k) 4 i = if ¬ i < 0 ∧ i.toNatClampNeg < 5 then some (h + (k + 1 + i.toNatClampNeg)) else none := by
  simp only [aR, HH_at, mk, hk, hl]
  by_cases c : ¬ i < 0 ∧ i.toNatClampNeg < 5
  · simp [c]
  · rw [if_neg c, if_neg (fun q => c q.2)]
/-! kinds at the fields' offsets -/
theorem kd_F {i : Nat} (hi : i < 40) : kd (3 + 6 * i) = 1 := by
  unfold kd
  rw [if_pos (by omega), if_pos (by omega)]
theorem kd_T {i : Nat} (hi : i < 40) : kd (3 + 6 * i + 1) = 10 := by
  unfold kd
  rw [if_pos (by omega), if_neg (by omega), if_neg (by omega)]
theorem kd_S {i : Nat} (hi : i < 40) : kd (3 + 6 * i + 2) = 4 := by
  unfold kd
  rw [if_pos (by omega), if_neg (by omega), if_pos (by omega)]
theorem kd_S1 {i : Nat} (hi : i < 40) : kd (3 + 6 * i + 2 + 1) = 10 := by
  unfold kd
  rw [if_pos (by omega), if_neg (by omega), if_neg (by omega)]
theorem kd_C {i : Nat} (hi : i < 40) : kd (3 + 6 * i + 4) = 4 := by
  unfold kd
  rw [if_pos (by omega), if_neg (by omega), if_pos (by omega)]
theorem kd_C1 {i : Nat} (hi : i < 40) : kd (3 + 6 * i + 4 + 1) = 10 := by
  unfold kd
  rw [if_pos (by omega), if_neg (by omega), if_neg (by omega)]
theorem ln_T {i : Nat} (hi : i < 40) : ln (3 + 6 * i + 1) = 8 := by
  unfold ln
  rw [if_pos (by omega), if_pos (by omega)]
theorem ln_S {i : Nat} (hi : i < 40) : ln (3 + 6 * i + 2 + 1) = 30 := by
  unfold ln
  rw [if_pos (by omega), if_neg (by omega), if_pos (by omega)]
theorem ln_C {i : Nat} (hi : i < 40) : ln (3 + 6 * i + 4 + 1) = 12 := by
  unfold ln
  rw [if_pos (by omega), if_neg (by omega), if_neg (by omega)]
