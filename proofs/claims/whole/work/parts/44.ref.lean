/-! the fixed objects' reads -/
theorem o_ck {h : Nat} {σ : SG} : ck (HH h σ) h 8 = some () := ck_8 (k := 0) rfl
theorem o_0 {h : Nat} {σ : SG} : gR (HH h σ) h 8 0 = some (h + 1) := g_8_0 (k := 0) rfl
theorem o_1 {h : Nat} {σ : SG} : gR (HH h σ) h 8 1 = some (h + 243) := g_8_1 (k := 0) rfl
theorem o_2 {h : Nat} {σ : SG} : gR (HH h σ) h 8 2 = some (h + 246) := g_8_2 (k := 0) rfl
theorem o_3 {h : Nat} {σ : SG} : gR (HH h σ) h 8 3 = some (h + 253) := g_8_3 (k := 0) rfl
theorem o_4 {h : Nat} {σ : SG} : gR (HH h σ) h 8 4 = some (h + 258) := g_8_4 (k := 0) rfl
theorem o_5 {h : Nat} {σ : SG} : gR (HH h σ) h 8 5 = some (h + 261) := g_8_5 (k := 0) rfl
theorem o_6 {h : Nat} {σ : SG} : gR (HH h σ) h 8 6 = some (h + 268) := g_8_6 (k := 0) rfl
theorem t_ck {h : Nat} {σ : SG} : ck (HH h σ) (h + 1) 5 = some () := ck_5 rfl
theorem t_0 {h : Nat} {σ : SG} : gR (HH h σ) (h + 1) 5 0 = some (h + 2) := g_5_0 rfl
theorem v_ck {h : Nat} {σ : SG} : ck (HH h σ) (h + 243) 6 = some () := ck_6 rfl
theorem v_0 {h : Nat} {σ : SG} : gR (HH h σ) (h + 243) 6 0 = some (h + 244) := g_6_0 rfl
theorem q_ck {h : Nat} {σ : SG} : ck (HH h σ) (h + 246) 0 = some () := ck_0 rfl
theorem q_0 {h : Nat} {σ : SG} : gR (HH h σ) (h + 246) 0 0 = some (h + 1) := g_0_0 rfl
theorem q_1 {h : Nat} {σ : SG} : gR (HH h σ) (h + 246) 0 1 = some (h + 247) := g_0_1 rfl
theorem q_2 {h : Nat} {σ : SG} : gR (HH h σ) (h + 246) 0 2 = some (h + 248) := g_0_2 rfl
theorem q_3 {h : Nat} {σ : SG} : gR (HH h σ) (h + 246) 0 3 = some (h + 249) := g_0_3 rfl
theorem q_4 {h : Nat} {σ : SG} : gR (HH h σ) (h + 246) 0 4 = some (h + 251) := g_0_4 rfl
theorem wr_ck {h : Nat} {σ : SG} : ck (HH h σ) (h + 253) 7 = some () := ck_7 rfl
theorem wr_0 {h : Nat} {σ : SG} : gR (HH h σ) (h + 253) 7 0 = some (h + 1) := g_7_0 rfl
theorem wr_1 {h : Nat} {σ : SG} : gR (HH h σ) (h + 253) 7 1 = some (h + 254) := g_7_1 rfl
theorem wr_2 {h : Nat} {σ : SG} : gR (HH h σ) (h + 253) 7 2 = some (h + 256) := g_7_2 rfl
theorem rd_ck {h : Nat} {σ : SG} : ck (HH h σ) (h + 258) 3 = some () := ck_3 rfl
theorem rd_0 {h : Nat} {σ : SG} : gR (HH h σ) (h + 258) 3 0 = some (h + 1) := g_3_0 rfl
theorem rd_1 {h : Nat} {σ : SG} : gR (HH h σ) (h + 258) 3 1 = some (h + 259) := g_3_1 rfl
theorem r_ck {h : Nat} {σ : SG} : ck (HH h σ) (h + 275) 9 = some () := ck_9 rfl
theorem r_2 {h : Nat} {σ : SG} : gR (HH h σ) (h + 275) 9 2 = some (h + 276) := g_9_2 rfl
theorem r_3 {h : Nat} {σ : SG} : gR (HH h σ) (h + 275) 9 3 = some (h + 277) := g_9_3 rfl
theorem r_4 {h : Nat} {σ : SG} : gR (HH h σ) (h + 275) 9 4 = some (h + 278) := g_9_4 rfl
theorem r_5 {h : Nat} {σ : SG} : gR (HH h σ) (h + 275) 9 5 = some (h + 279) := g_9_5 rfl
theorem r_6 {h : Nat} {σ : SG} : gR (HH h σ) (h + 275) 9 6 = some (h + 280) := g_9_6 rfl
theorem r_7 {h : Nat} {σ : SG} : gR (HH h σ) (h + 275) 9 7 = some (h + 281) := g_9_7 rfl
theorem r_8 {h : Nat} {σ : SG} : gR (HH h σ) (h + 275) 9 8 = some (h + 282) := g_9_8 rfl
theorem r_9 {h : Nat} {σ : SG} : gR (HH h σ) (h + 275) 9 9 = some (h + 283) := g_9_9 rfl
theorem r_10 {h : Nat} {σ : SG} : gR (HH h σ) (h + 275) 9 10 = some (h + 284) := g_9_10 rfl
theorem r_11 {h : Nat} {σ : SG} : gR (HH h σ) (h + 275) 9 11 = some (h + 285) := g_9_11 rfl
theorem r_12 {h : Nat} {σ : SG} : gR (HH h σ) (h + 275) 9 12 = some (h + 286) := g_9_12 rfl
theorem r_13 {h : Nat} {σ : SG} : gR (HH h σ) (h + 275) 9 13 = some (h + 287) := g_9_13 rfl
theorem r_14 {h : Nat} {σ : SG} : gR (HH h σ) (h + 275) 9 14 = some (h + 288) := g_9_14 rfl
theorem r_15 {h : Nat} {σ : SG} : gR (HH h σ) (h + 275) 9 15 = some (h + 289) := g_9_15 rfl
theorem r_16 {h : Nat} {σ : SG} : gR (HH h σ) (h + 275) 9 16 = some (h + 290) := g_9_16 rfl
theorem r_17 {h : Nat} {σ : SG} : gR (HH h σ) (h + 275) 9 17 = some (h + 291) := g_9_17 rfl
theorem r_18 {h : Nat} {σ : SG} : gR (HH h σ) (h + 275) 9 18 = some (h + 292) := g_9_18 rfl
theorem r_19 {h : Nat} {σ : SG} : gR (HH h σ) (h + 275) 9 19 = some (h + 293) := g_9_19 rfl
theorem r_20 {h : Nat} {σ : SG} : gR (HH h σ) (h + 275) 9 20 = some (h + 294) := g_9_20 rfl
theorem r_21 {h : Nat} {σ : SG} : gR (HH h σ) (h + 275) 9 21 = some (h + 295) := g_9_21 rfl
theorem r_22 {h : Nat} {σ : SG} : gR (HH h σ) (h + 275) 9 22 = some (h + 296) := g_9_22 rfl
theorem r_23 {h : Nat} {σ : SG} : gR (HH h σ) (h + 275) 9 23 = some (h + 297) := g_9_23 rfl
theorem r_24 {h : Nat} {σ : SG} : gR (HH h σ) (h + 275) 9 24 = some (h + 298) := g_9_24 rfl
theorem r_25 {h : Nat} {σ : SG} : gR (HH h σ) (h + 275) 9 25 = some (h + 299) := g_9_25 rfl
theorem r_27 {h : Nat} {σ : SG} : gR (HH h σ) (h + 275) 9 27 = some (h + 300) := g_9_27 rfl
theorem r_29 {h : Nat} {σ : SG} : gR (HH h σ) (h + 275) 9 29 = some (h + 301) := g_9_29 rfl
theorem r_31 {h : Nat} {σ : SG} : gR (HH h σ) (h + 275) 9 31 = some (h + 302) := g_9_31 rfl
theorem r_32 {h : Nat} {σ : SG} : gR (HH h σ) (h + 275) 9 32 = some (h + 303) := g_9_32 rfl
theorem r_34 {h : Nat} {σ : SG} : gR (HH h σ) (h + 275) 9 34 = some (h + 304) := g_9_34 rfl
theorem r_36 {h : Nat} {σ : SG} : gR (HH h σ) (h + 275) 9 36 = some (h + 305) := g_9_36 rfl
theorem r_0 {h : Nat} {σ : SG} : gI (HH h σ) (h + 275) 9 0 = some (σ.1 275 0) := g_9_0 rfl
theorem rp_0 {h : Nat} {σ : SG} (x : Int32) : pV (HH h σ) (h + 275) 9 0 (.int x) = some (HH h (uI σ 275 0 x)) := p_9_0 rfl x
theorem r_1 {h : Nat} {σ : SG} : gI (HH h σ) (h + 275) 9 1 = some (σ.1 275 1) := g_9_1 rfl
theorem rp_1 {h : Nat} {σ : SG} (x : Int32) : pV (HH h σ) (h + 275) 9 1 (.int x) = some (HH h (uI σ 275 1 x)) := p_9_1 rfl x
theorem r_26 {h : Nat} {σ : SG} : gI (HH h σ) (h + 275) 9 26 = some (σ.1 275 26) := g_9_26 rfl
theorem rp_26 {h : Nat} {σ : SG} (x : Int32) : pV (HH h σ) (h + 275) 9 26 (.int x) = some (HH h (uI σ 275 26 x)) := p_9_26 rfl x
theorem r_28 {h : Nat} {σ : SG} : gI (HH h σ) (h + 275) 9 28 = some (σ.1 275 28) := g_9_28 rfl
theorem rp_28 {h : Nat} {σ : SG} (x : Int32) : pV (HH h σ) (h + 275) 9 28 (.int x) = some (HH h (uI σ 275 28 x)) := p_9_28 rfl x
theorem r_30 {h : Nat} {σ : SG} : gI (HH h σ) (h + 275) 9 30 = some (σ.1 275 30) := g_9_30 rfl
theorem rp_30 {h : Nat} {σ : SG} (x : Int32) : pV (HH h σ) (h + 275) 9 30 (.int x) = some (HH h (uI σ 275 30 x)) := p_9_30 rfl x
theorem r_33 {h : Nat} {σ : SG} : gI (HH h σ) (h + 275) 9 33 = some (σ.1 275 33) := g_9_33 rfl
theorem rp_33 {h : Nat} {σ : SG} (x : Int32) : pV (HH h σ) (h + 275) 9 33 (.int x) = some (HH h (uI σ 275 33 x)) := p_9_33 rfl x
theorem r_35 {h : Nat} {σ : SG} : gI (HH h σ) (h + 275) 9 35 = some (σ.1 275 35) := g_9_35 rfl
theorem rp_35 {h : Nat} {σ : SG} (x : Int32) : pV (HH h σ) (h + 275) 9 35 (.int x) = some (HH h (uI σ 275 35 x)) := p_9_35 rfl x
theorem r_37 {h : Nat} {σ : SG} : gI (HH h σ) (h + 275) 9 37 = some (σ.1 275 37) := g_9_37 rfl
theorem rp_37 {h : Nat} {σ : SG} (x : Int32) : pV (HH h σ) (h + 275) 9 37 (.int x) = some (HH h (uI σ 275 37 x)) := p_9_37 rfl x
theorem aN0 {h : Nat} {σ : SG} {k j : Nat} (hk : kd k = 10) (hj : j < ln k) : aI (HH h σ) (h + k) 0 (nI j) = some (σ.2.2.1 k j) := by
  have := ln_le k
  rw [a_0 hk, nI_clamp (by omega), if_pos ⟨nI_pos (by omega), hj⟩]
theorem aN2 {h : Nat} {σ : SG} {k j : Nat} (hk : kd k = 12) (hj : j < ln k) : aI (HH h σ) (h + k) 2 (nI j) = some (σ.2.2.1 k j) := by
  have := ln_le k
  rw [a_2 hk, nI_clamp (by omega), if_pos ⟨nI_pos (by omega), hj⟩]
theorem aN1 {h : Nat} {σ : SG} {k j : Nat} (hk : kd k = 11) (hj : j < ln k) : aL (HH h σ) (h + k) (nI j) = some (σ.2.2.2 k j) := by
  have := ln_le k
  rw [a_1 hk, nI_clamp (by omega), if_pos ⟨nI_pos (by omega), hj⟩]
theorem sN0 {h : Nat} {σ : SG} {k j : Nat} (hk : kd k = 10) (hj : j < ln k) (x : Int32) : sI (HH h σ) (h + k) 0 (nI j) x = some (HH h (uA σ k j x)) := by
  have := ln_le k
  rw [s_0 hk, nI_clamp (by omega), if_pos ⟨nI_pos (by omega), hj⟩]
theorem sN2 {h : Nat} {σ : SG} {k j : Nat} (hk : kd k = 12) (hj : j < ln k) (x : Int32) : sI (HH h σ) (h + k) 2 (nI j) x = some (HH h (uA σ k j x)) := by
  have := ln_le k
  rw [s_2 hk, nI_clamp (by omega), if_pos ⟨nI_pos (by omega), hj⟩]
theorem sN1 {h : Nat} {σ : SG} {k j : Nat} (hk : kd k = 11) (hj : j < ln k) (x : Int64) : sL (HH h σ) (h + k) (nI j) x = some (HH h (uB σ k j x)) := by
  have := ln_le k
  rw [s_1 hk, nI_clamp (by omega), if_pos ⟨nI_pos (by omega), hj⟩]
/-! THE REFERENCE'S CELLS -/
def pk (k : Int32) : Prop := k = 2 ∨ k = 3 ∨ k = 4
def two (o : Int32) : Prop := (0 : Int32) ≤ o ∧ o ≤ 5
def RMF (σ : SG) (s : AS) (i : Nat) : Prop :=
  (σ.2.2.1 276 i = s.1 i 1 ∧ σ.2.2.1 277 i = s.1 i 2 ∧ σ.2.2.1 278 i = s.1 i 3 ∧ σ.2.2.1 279 i = s.1 i 4 ∧ σ.2.2.1 280 i = s.1 i 25 ∧ σ.2.2.1 281 i = s.1 i 26) ∧ (pk (s.1 i 1) → σ.2.2.1 286 i = s.1 i 10) ∧ (σ.2.2.2 290 i = s.2.1 i 11 ∧ σ.2.2.2 291 i = s.2.1 i 12) ∧ σ.2.2.1 292 i = s.1 i 13 ∧ (two (s.1 i 13) → σ.2.2.1 293 i = s.1 (s.1 i 14).toNatClampNeg 4 ∧ σ.2.2.1 294 i = s.1 (s.1 i 15).toNatClampNeg 4) ∧ (s.1 i 13 = 6 ∨ s.1 i 13 = 7 → σ.2.2.1 293 i = s.1 i 14)
def RMW (σ : SG) (s : AS) (i : Nat) : Prop :=
  (σ.2.2.1 282 i = s.1 i 27 ∧ σ.2.2.1 283 i = s.1 i 5 ∧ σ.2.2.1 296 i = s.1 i 6 ∧ σ.2.2.1 295 i = s.1 i 16) ∧ (∀ j, j < 5 → σ.2.2.1 289 (5 * i + j) = s.1 i (20 + j)) ∧ (σ.2.2.1 285 i = nI (s.2.2.1 i 0).length ∧ ∀ j, j < (s.2.2.1 i 0).length → σ.2.2.1 284 (30 * i + j) = (s.2.2.1 i 0).getD j 0) ∧ (σ.2.2.1 288 i = nI (s.2.2.1 i 1).length ∧ ∀ j, j < (s.2.2.1 i 1).length → σ.2.2.1 287 (12 * i + j) = (s.2.2.1 i 1).getD j 0)
/-- a list of the reference that stands in the first places of an array -/
def RMl (σ : SG) (s : AS) (c k j : Nat) : Prop := σ.1 275 c = nI (s.2.2.1 40 j).length ∧ ∀ q, q < (s.2.2.1 40 j).length → σ.2.2.1 k q = (s.2.2.1 40 j).getD q 0
def RMk (σ : SG) (s : AS) (c k wd i : Nat) : Prop := σ.1 275 c = nI (s.2.2.1 i 0).length ∧ ∀ w, w < wd → ∀ q, q < (s.2.2.1 i 0).length → σ.2.2.1 k (wd * q + w) = (s.2.2.1 i w).getD q 0
def RM (σ : SG) (s : AS) : Prop :=
  σ.1 275 1 = nI s.2.2.2 ∧ (∀ i, i < s.2.2.2 → RMF σ s i) ∧ (∀ i, i < 40 → RMW σ s i) ∧ (RMl σ s 26 299 0 ∧ RMl σ s 35 304 1 ∧ RMl σ s 37 305 2) ∧ RMk σ s 30 301 4 41 ∧ RMk σ s 33 303 5 42
theorem RM.nn {σ : SG} {s : AS} (h : RM σ s) : σ.1 275 1 = nI s.2.2.2 := h.1
theorem RM.F {σ : SG} {s : AS} (h : RM σ s) {i : Nat} (hi : i < s.2.2.2) : RMF σ s i := h.2.1 i hi
theorem RM.W {σ : SG} {s : AS} (h : RM σ s) {i : Nat} (hi : i < 40) : RMW σ s i := h.2.2.1 i hi
theorem RM.fai {σ : SG} {s : AS} (h : RM σ s) : RMl σ s 26 299 0 := h.2.2.2.1.1
theorem RM.dat {σ : SG} {s : AS} (h : RM σ s) : RMl σ s 35 304 1 := h.2.2.2.1.2.1
theorem RM.inp {σ : SG} {s : AS} (h : RM σ s) : RMl σ s 37 305 2 := h.2.2.2.1.2.2
theorem RM.made {σ : SG} {s : AS} (h : RM σ s) : RMk σ s 30 301 4 41 := h.2.2.2.2.1
theorem RM.kept {σ : SG} {s : AS} (h : RM σ s) : RMk σ s 33 303 5 42 := h.2.2.2.2.2
theorem RMF.cong {σ τ : SG} {s t : AS} {i : Nat} (h : RMF σ s i) (hA : ∀ k, 276 ≤ k → k ≤ 296 → k ≠ 284 → k ≠ 285 → k ≠ 287 → k ≠ 288 → k ≠ 289 → τ.2.2.1 k i = σ.2.2.1 k i) (hB : τ.2.2.2 290 i = σ.2.2.2 290 i ∧ τ.2.2.2 291 i = σ.2.2.2 291 i) (a1 : t.1 i = s.1 i) (a2 : t.2.1 i = s.2.1 i) (a4 : two (s.1 i 13) → t.1 (s.1 i 14).toNatClampNeg 4 = s.1 (s.1 i 14).toNatClampNeg 4 ∧ t.1 (s.1 i 15).toNatClampNeg 4 = s.1 (s.1 i 15).toNatClampNeg 4) : RMF τ t i := by
  obtain ⟨⟨b1, b2, b3, b4, b5, b6⟩, b7, ⟨b8, b9⟩, b10, b11, b12⟩ := h
  unfold RMF
  rw [a1, a2]
  refine ⟨⟨?_, ?_, ?_, ?_, ?_, ?_⟩, fun hp => ?_, ⟨hB.1.trans b8, hB.2.trans b9⟩, ?_, fun hp => ⟨?_, ?_⟩, fun hp => ?_⟩
  all_goals rw [hA _ (by omega) (by omega) (by omega) (by omega) (by omega) (by omega) (by omega)]
  · exact b1
  · exact b2
  · exact b3
  · exact b4
  · exact b5
  · exact b6
  · exact b7 hp
  · exact b10
  · rw [(a4 hp).1]; exact (b11 hp).1
  · rw [(a4 hp).2]; exact (b11 hp).2
  · exact b12 hp
theorem RMW.cong {σ τ : SG} {s t : AS} {i : Nat} (h : RMW σ s i) (hA : ∀ k, 276 ≤ k → k ≤ 296 → k ≠ 284 → k ≠ 287 → k ≠ 289 → τ.2.2.1 k i = σ.2.2.1 k i) (h4 : ∀ j, j < (s.2.2.1 i 0).length → τ.2.2.1 284 (30 * i + j) = σ.2.2.1 284 (30 * i + j)) (h7 : ∀ j, j < (s.2.2.1 i 1).length → τ.2.2.1 287 (12 * i + j) = σ.2.2.1 287 (12 * i + j)) (h9 : ∀ j, j < 5 → τ.2.2.1 289 (5 * i + j) = σ.2.2.1 289 (5 * i + j)) (a1 : t.1 i = s.1 i) (a3 : t.2.2.1 i = s.2.2.1 i) : RMW τ t i := by
  obtain ⟨⟨b1, b2, b3, b4⟩, b5, ⟨b6, b7⟩, ⟨b8, b9⟩⟩ := h
  unfold RMW
  rw [a1, a3]
  refine ⟨⟨?_, ?_, ?_, ?_⟩, fun j hj => (h9 j hj).trans (b5 j hj), ⟨?_, fun j hj => (h4 j hj).trans (b7 j hj)⟩, ⟨?_, fun j hj => (h7 j hj).trans (b9 j hj)⟩⟩
  all_goals rw [hA _ (by omega) (by omega) (by omega) (by omega) (by omega)]
  all_goals assumption
theorem RMl.cong {σ τ : SG} {s t : AS} {c k j : Nat} (h : RMl σ s c k j) (h1 : τ.1 275 c = σ.1 275 c) (h2 : τ.2.2.1 k = σ.2.2.1 k) (a3 : t.2.2.1 40 j = s.2.2.1 40 j) : RMl τ t c k j := by
  unfold RMl
  rw [a3, h1, h2]
  exact h
theorem RMk.cong {σ τ : SG} {s t : AS} {c k wd i : Nat} (h : RMk σ s c k wd i) (h1 : τ.1 275 c = σ.1 275 c) (h2 : τ.2.2.1 k = σ.2.2.1 k) (a3 : t.2.2.1 i = s.2.2.1 i) : RMk τ t c k wd i := by
  unfold RMk
  rw [a3, h1, h2]
  exact h
/-- what the reference only works in, and all that is not the reference's, does not matter -/
theorem RM.work {σ τ : SG} {s : AS} (h : RM σ s) (h1 : ∀ j, j ≠ 0 → j ≠ 28 → τ.1 275 j = σ.1 275 j) (h2 : ∀ k, 276 ≤ k → k ≤ 305 → k ≠ 297 → k ≠ 298 → k ≠ 300 → k ≠ 302 → τ.2.2.1 k = σ.2.2.1 k) (h3 : τ.2.2.2 290 = σ.2.2.2 290 ∧ τ.2.2.2 291 = σ.2.2.2 291) : RM τ s :=
  ⟨by rw [h1 1 (by omega) (by omega)]; exact h.nn,
   fun i hi => (h.F hi).cong (fun k _ _ _ _ _ _ _ => by rw [h2 k (by omega) (by omega) (by omega) (by omega) (by omega) (by omega)]) ⟨by rw [h3.1], by rw [h3.2]⟩ rfl rfl (fun _ => ⟨rfl, rfl⟩),
   fun i hi => (h.W hi).cong (fun k _ _ _ _ _ => by rw [h2 k (by omega) (by omega) (by omega) (by omega) (by omega) (by omega)]) (fun j _ => by rw [h2 284 (by omega) (by omega) (by omega) (by omega) (by omega) (by omega)]) (fun j _ => by rw [h2 287 (by omega) (by omega) (by omega) (by omega) (by omega) (by omega)]) (fun j _ => by rw [h2 289 (by omega) (by omega) (by omega) (by omega) (by omega) (by omega)]) rfl rfl,
   ⟨h.fai.cong (h1 _ (by omega) (by omega)) (h2 _ (by omega) (by omega) (by omega) (by omega) (by omega) (by omega)) rfl, h.dat.cong (h1 _ (by omega) (by omega)) (h2 _ (by omega) (by omega) (by omega) (by omega) (by omega) (by omega)) rfl, h.inp.cong (h1 _ (by omega) (by omega)) (h2 _ (by omega) (by omega) (by omega) (by omega) (by omega) (by omega)) rfl⟩,
   h.made.cong (h1 _ (by omega) (by omega)) (h2 _ (by omega) (by omega) (by omega) (by omega) (by omega) (by omega)) rfl, h.kept.cong (h1 _ (by omega) (by omega)) (h2 _ (by omega) (by omega) (by omega) (by omega) (by omega) (by omega)) rfl⟩
theorem RM.far {σ τ : SG} {s : AS} (h : RM σ s) (hq : ∀ k, 275 ≤ k → k < 306 → agr σ τ k) : RM τ s :=
  h.work (fun j _ _ => by rw [(hq 275 (by omega) (by omega)).1]) (fun k _ _ _ _ _ _ => (hq k (by omega) (by omega)).2.2.1) ⟨(hq 290 (by omega) (by omega)).2.2.2, (hq 291 (by omega) (by omega)).2.2.2⟩
theorem RM.thr {σ : SG} {s : AS} (h : RM σ s) (x : Int32) : RM (uI σ 275 0 x) s :=
  h.work (fun j h0 _ => uI_ne _ _ _ _ (by omega)) (fun _ _ _ _ _ _ _ => rfl) ⟨rfl, rfl⟩
theorem RM.rsz {σ : SG} {s : AS} (h : RM σ s) (x : Int32) : RM (uI σ 275 28 x) s :=
  h.work (fun j _ h0 => uI_ne _ _ _ _ (by omega)) (fun _ _ _ _ _ _ _ => rfl) ⟨rfl, rfl⟩
theorem RM.mapp {σ : SG} {s : AS} (h : RM σ s) (xs : List Int32) : RM (mapp σ xs) s :=
  h.work (fun j _ h0 => mapp_I h0 xs σ) (fun k _ _ _ _ _ _ => ((mapp_but xs σ).ag (k := k) (by simp <;> omega)).2.2.1) ⟨((mapp_but xs σ).ag (k := 290) (by simp)).2.2.2, ((mapp_but xs σ).ag (k := 291) (by simp)).2.2.2⟩
/-- which field's cell it is -/
def mcell (k c : Nat) : Nat := if k = 284 then c / 30 else if k = 287 then c / 12 else if k = 289 then c / 5 else c
/-- one field's cells change, and the abstract field alike -/
theorem RM.one {σ τ : SG} {s t : AS} {i : Nat} (h : RM σ s) (hL : ∀ q, q < 40 → (s.2.2.1 q 0).length ≤ 30 ∧ (s.2.2.1 q 1).length ≤ 12) (hn40 : s.2.2.2 ≤ 40) (hi : i < 40) (h1 : ∀ j, j ≠ 0 → j ≠ 28 → τ.1 275 j = σ.1 275 j) (h2 : ∀ k c, 276 ≤ k → k ≤ 296 → mcell k c ≠ i → τ.2.2.1 k c = σ.2.2.1 k c) (h5 : ∀ k, 299 ≤ k → k ≠ 300 → k ≠ 302 → τ.2.2.1 k = σ.2.2.1 k) (h3 : ∀ k c, c ≠ i → τ.2.2.2 k c = σ.2.2.2 k c) (hF : i < s.2.2.2 → RMF τ t i) (hW : RMW τ t i) (hn : t.2.2.2 = s.2.2.2) (ht : ∀ q, q ≠ i → t.1 q = s.1 q ∧ t.2.1 q = s.2.1 q ∧ t.2.2.1 q = s.2.2.1 q) (hf : ∀ q, t.1 q 4 = s.1 q 4) : RM τ t := by
  refine ⟨by rw [h1 1 (by omega) (by omega), hn]; exact h.nn, fun q hq => ?_, fun q hq => ?_, ⟨?_, ?_, ?_⟩, ?_, ?_⟩
  · rw [hn] at hq
    by_cases e : q = i
    · rw [e]; exact hF (by omega)
    · obtain ⟨a, b, c⟩ := ht q e
      exact (h.F hq).cong (fun k _ _ n1 _ n2 _ n3 => h2 k q (by omega) (by omega) (by simp [mcell, n1, n2, n3, e])) ⟨h3 _ _ e, h3 _ _ e⟩ a b (fun _ => ⟨hf _, hf _⟩)
  · by_cases e : q = i
    · rw [e]; exact hW
    · obtain ⟨a, b, c⟩ := ht q e
      have hl := hL q hq
      exact (h.W hq).cong (fun k _ _ n1 n2 n3 => h2 k q (by omega) (by omega) (by simp [mcell, n1, n2, n3, e])) (fun j _ => h2 _ _ (by omega) (by omega) (by simp [mcell]; omega)) (fun j _ => h2 _ _ (by omega) (by omega) (by simp [mcell]; omega)) (fun j _ => h2 _ _ (by omega) (by omega) (by simp [mcell]; omega)) a c
  · exact h.fai.cong (h1 _ (by omega) (by omega)) (h5 _ (by omega) (by omega) (by omega)) (by rw [(ht 40 (by omega)).2.2])
  · exact h.dat.cong (h1 _ (by omega) (by omega)) (h5 _ (by omega) (by omega) (by omega)) (by rw [(ht 40 (by omega)).2.2])
  · exact h.inp.cong (h1 _ (by omega) (by omega)) (h5 _ (by omega) (by omega) (by omega)) (by rw [(ht 40 (by omega)).2.2])
  · exact h.made.cong (h1 _ (by omega) (by omega)) (h5 _ (by omega) (by omega) (by omega)) (ht 41 (by omega)).2.2
  · exact h.kept.cong (h1 _ (by omega) (by omega)) (h5 _ (by omega) (by omega) (by omega)) (ht 42 (by omega)).2.2

theorem m_kind {h : Nat} {σ : SG} {s : AS} {i : Nat} (hM : RM σ s) (hn : s.2.2.2 ≤ 40) (hi : i < s.2.2.2) : aI (HH h σ) (h + 276) 0 (nI i) = some (s.1 i 1) := by rw [aN0 (k := 276) rfl (show i < 40 by omega), (hM.F hi).1.1]
theorem m_par {h : Nat} {σ : SG} {s : AS} {i : Nat} (hM : RM σ s) (hn : s.2.2.2 ≤ 40) (hi : i < s.2.2.2) : aI (HH h σ) (h + 277) 0 (nI i) = some (s.1 i 2) := by rw [aN0 (k := 277) rfl (show i < 40 by omega), (hM.F hi).1.2.1]
theorem m_name {h : Nat} {σ : SG} {s : AS} {i : Nat} (hM : RM σ s) (hn : s.2.2.2 ≤ 40) (hi : i < s.2.2.2) : aI (HH h σ) (h + 278) 0 (nI i) = some (s.1 i 3) := by rw [aN0 (k := 278) rfl (show i < 40 by omega), (hM.F hi).1.2.2.1]
theorem m_fst {h : Nat} {σ : SG} {s : AS} {i : Nat} (hM : RM σ s) (hn : s.2.2.2 ≤ 40) (hi : i < s.2.2.2) : aI (HH h σ) (h + 279) 0 (nI i) = some (s.1 i 4) := by rw [aN0 (k := 279) rfl (show i < 40 by omega), (hM.F hi).1.2.2.2.1]
theorem m_wid {h : Nat} {σ : SG} {s : AS} {i : Nat} (hM : RM σ s) (hn : s.2.2.2 ≤ 40) (hi : i < s.2.2.2) : aI (HH h σ) (h + 280) 0 (nI i) = some (s.1 i 25) := by rw [aN0 (k := 280) rfl (show i < 40 by omega), (hM.F hi).1.2.2.2.2.1]
theorem m_hei {h : Nat} {σ : SG} {s : AS} {i : Nat} (hM : RM σ s) (hn : s.2.2.2 ≤ 40) (hi : i < s.2.2.2) : aI (HH h σ) (h + 281) 0 (nI i) = some (s.1 i 26) := by rw [aN0 (k := 281) rfl (show i < 40 by omega), (hM.F hi).1.2.2.2.2.2]
theorem m_lea {h : Nat} {σ : SG} {s : AS} {i : Nat} (hM : RM σ s) (hn : s.2.2.2 ≤ 40) (hi : i < s.2.2.2) : aL (HH h σ) (h + 290) (nI i) = some (s.2.1 i 11) := by rw [aN1 (k := 290) rfl (show i < 40 by omega), (hM.F hi).2.2.1.1]
theorem m_mos {h : Nat} {σ : SG} {s : AS} {i : Nat} (hM : RM σ s) (hn : s.2.2.2 ≤ 40) (hi : i < s.2.2.2) : aL (HH h σ) (h + 291) (nI i) = some (s.2.1 i 12) := by rw [aN1 (k := 291) rfl (show i < 40 by omega), (hM.F hi).2.2.1.2]
theorem m_op {h : Nat} {σ : SG} {s : AS} {i : Nat} (hM : RM σ s) (hn : s.2.2.2 ≤ 40) (hi : i < s.2.2.2) : aI (HH h σ) (h + 292) 0 (nI i) = some (s.1 i 13) := by rw [aN0 (k := 292) rfl (show i < 40 by omega), (hM.F hi).2.2.2.1]
theorem m_sid {h : Nat} {σ : SG} {s : AS} {i : Nat} (hM : RM σ s) (hn : s.2.2.2 ≤ 40) (hi : i < s.2.2.2) : aI (HH h σ) (h + 282) 0 (nI i) = some (s.1 i 27) := by rw [aN0 (k := 282) rfl (show i < 40 by omega), (hM.W (show i < 40 by omega)).1.1]
theorem m_flat {h : Nat} {σ : SG} {s : AS} {i : Nat} (hM : RM σ s) (hn : s.2.2.2 ≤ 40) (hi : i < s.2.2.2) : aI (HH h σ) (h + 283) 2 (nI i) = some (s.1 i 5) := by rw [aN2 (k := 283) rfl (show i < 40 by omega), (hM.W (show i < 40 by omega)).1.2.1]
theorem m_lock {h : Nat} {σ : SG} {s : AS} {i : Nat} (hM : RM σ s) (hn : s.2.2.2 ≤ 40) (hi : i < s.2.2.2) : aI (HH h σ) (h + 296) 2 (nI i) = some (s.1 i 6) := by rw [aN2 (k := 296) rfl (show i < 40 by omega), (hM.W (show i < 40 by omega)).1.2.2.1]
theorem m_failing {h : Nat} {σ : SG} {s : AS} {i : Nat} (hM : RM σ s) (hn : s.2.2.2 ≤ 40) (hi : i < s.2.2.2) : aI (HH h σ) (h + 295) 2 (nI i) = some (s.1 i 16) := by rw [aN2 (k := 295) rfl (show i < 40 by omega), (hM.W (show i < 40 by omega)).1.2.2.2]
theorem m_many {h : Nat} {σ : SG} {s : AS} {i : Nat} (hM : RM σ s) (hn : s.2.2.2 ≤ 40) (hi : i < s.2.2.2) : aI (HH h σ) (h + 285) 0 (nI i) = some (nI (s.2.2.1 i 0).length) := by rw [aN0 (k := 285) rfl (show i < 40 by omega), (hM.W (show i < 40 by omega)).2.2.1.1]
theorem m_opts {h : Nat} {σ : SG} {s : AS} {i : Nat} (hM : RM σ s) (hn : s.2.2.2 ≤ 40) (hi : i < s.2.2.2) : aI (HH h σ) (h + 288) 0 (nI i) = some (nI (s.2.2.1 i 1).length) := by rw [aN0 (k := 288) rfl (show i < 40 by omega), (hM.W (show i < 40 by omega)).2.2.2.1]
theorem m_pick {h : Nat} {σ : SG} {s : AS} {i : Nat} (hM : RM σ s) (hn : s.2.2.2 ≤ 40) (hi : i < s.2.2.2) (hp : pk (s.1 i 1)) : aI (HH h σ) (h + 286) 0 (nI i) = some (s.1 i 10) := by rw [aN0 (k := 286) rfl (show i < 40 by omega), (hM.F hi).2.1 hp]
theorem m_a2 {h : Nat} {σ : SG} {s : AS} {i : Nat} (hM : RM σ s) (hn : s.2.2.2 ≤ 40) (hi : i < s.2.2.2) (hp : two (s.1 i 13)) : aI (HH h σ) (h + 293) 0 (nI i) = some (s.1 (s.1 i 14).toNatClampNeg 4) := by rw [aN0 (k := 293) rfl (show i < 40 by omega), ((hM.F hi).2.2.2.2.1 hp).1]
theorem m_b2 {h : Nat} {σ : SG} {s : AS} {i : Nat} (hM : RM σ s) (hn : s.2.2.2 ≤ 40) (hi : i < s.2.2.2) (hp : two (s.1 i 13)) : aI (HH h σ) (h + 294) 0 (nI i) = some (s.1 (s.1 i 15).toNatClampNeg 4) := by rw [aN0 (k := 294) rfl (show i < 40 by omega), ((hM.F hi).2.2.2.2.1 hp).2]
theorem m_a67 {h : Nat} {σ : SG} {s : AS} {i : Nat} (hM : RM σ s) (hn : s.2.2.2 ≤ 40) (hi : i < s.2.2.2) (hp : s.1 i 13 = 6 ∨ s.1 i 13 = 7) : aI (HH h σ) (h + 293) 0 (nI i) = some (s.1 i 14) := by rw [aN0 (k := 293) rfl (show i < 40 by omega), (hM.F hi).2.2.2.2.2 hp]
theorem m_set {h : Nat} {σ : SG} {s : AS} {i : Nat} (hM : RM σ s) (hn : s.2.2.2 ≤ 40) (hi : i < s.2.2.2) {j : Nat} (hj : j < 5) : aI (HH h σ) (h + 289) 0 (nI (5 * i + j)) = some (s.1 i (20 + j)) := by rw [aN0 (k := 289) rfl (show 5 * i + j < 200 by omega), (hM.W (show i < 40 by omega)).2.1 j hj]
theorem n5 (i : Nat) : (5 : Int32) * nI i = nI (5 * i) := (Int32.ofNat_mul 5 i).symm
theorem n30 (i : Nat) : (30 : Int32) * nI i = nI (30 * i) := (Int32.ofNat_mul 30 i).symm
theorem n12 (i : Nat) : (12 : Int32) * nI i = nI (12 * i) := (Int32.ofNat_mul 12 i).symm
theorem m_set1 {h : Nat} {σ : SG} {s : AS} {i : Nat} (hM : RM σ s) (hn : s.2.2.2 ≤ 40) (hi : i < s.2.2.2) : aI (HH h σ) (h + 289) 0 ((5 : Int32) * nI i + (1 : Int32)) = some (s.1 i 21) := by rw [n5, show (1 : Int32) = nI 1 from rfl, nI_add, m_set hM hn hi (j := 1) (by omega)]
theorem m_set2 {h : Nat} {σ : SG} {s : AS} {i : Nat} (hM : RM σ s) (hn : s.2.2.2 ≤ 40) (hi : i < s.2.2.2) : aI (HH h σ) (h + 289) 0 ((5 : Int32) * nI i + (2 : Int32)) = some (s.1 i 22) := by rw [n5, show (2 : Int32) = nI 2 from rfl, nI_add, m_set hM hn hi (j := 2) (by omega)]
theorem m_set3 {h : Nat} {σ : SG} {s : AS} {i : Nat} (hM : RM σ s) (hn : s.2.2.2 ≤ 40) (hi : i < s.2.2.2) : aI (HH h σ) (h + 289) 0 ((5 : Int32) * nI i + (3 : Int32)) = some (s.1 i 23) := by rw [n5, show (3 : Int32) = nI 3 from rfl, nI_add, m_set hM hn hi (j := 3) (by omega)]
theorem m_set4 {h : Nat} {σ : SG} {s : AS} {i : Nat} (hM : RM σ s) (hn : s.2.2.2 ≤ 40) (hi : i < s.2.2.2) : aI (HH h σ) (h + 289) 0 ((5 : Int32) * nI i + (4 : Int32)) = some (s.1 i 24) := by rw [n5, show (4 : Int32) = nI 4 from rfl, nI_add, m_set hM hn hi (j := 4) (by omega)]
theorem m_set0 {h : Nat} {σ : SG} {s : AS} {i : Nat} (hM : RM σ s) (hn : s.2.2.2 ≤ 40) (hi : i < s.2.2.2) : aI (HH h σ) (h + 289) 0 ((5 : Int32) * nI i) = some (s.1 i 20) := by rw [n5]; exact m_set hM hn hi (j := 0) (by omega)
theorem m_sign {h : Nat} {σ : SG} {s : AS} {i : Nat} (hM : RM σ s) (hn : s.2.2.2 ≤ 40) (hi : i < s.2.2.2) {j : Nat} (hj : j < (s.2.2.1 i 0).length) (hl : (s.2.2.1 i 0).length ≤ 30) : aI (HH h σ) (h + 284) 0 (nI (30 * i + j)) = some ((s.2.2.1 i 0).getD j 0) := by rw [aN0 (k := 284) rfl (show 30 * i + j < 1200 by omega), (hM.W (show i < 40 by omega)).2.2.1.2 j hj]
theorem m_code {h : Nat} {σ : SG} {s : AS} {i : Nat} (hM : RM σ s) (hn : s.2.2.2 ≤ 40) (hi : i < s.2.2.2) {j : Nat} (hj : j < (s.2.2.1 i 1).length) (hl : (s.2.2.1 i 1).length ≤ 12) : aI (HH h σ) (h + 287) 0 (nI (12 * i + j)) = some ((s.2.2.1 i 1).getD j 0) := by rw [aN0 (k := 287) rfl (show 12 * i + j < 480 by omega), (hM.W (show i < 40 by omega)).2.2.2.2 j hj]
