/-! THE LAW'S LOOP -/
def DL_law_23 (N L : Nat) (xs : Nat → Int32) (w : Nat) (v1 : Nat) (v2 : Nat) (v3 : Nat) (v4 : Int32) (f : HF) (c z : Nat) : Option (Int32 × HF) :=
  match w with
  | 0 => none
  | w + 1 =>
    if c + 1 ≤ 600384 ∧ z + 6 ≤ 7289834 then
    if ((nI L) - (6 : Int32)) < v4 then
      some ((1 : Int32), f)
    else
      (xsI L xs v4).bind fun x1 =>
      if (x1 &&& (31 : Int32)) = 0 then
        DL_c0 N L xs (DL_law_23 N L xs w) v1 v2 v3 v4 f c z
      else
      if (x1 &&& (31 : Int32)) = 1 then
        DL_c1 N L xs (DL_law_23 N L xs w) v1 v2 v3 v4 f c z
      else
      if (x1 &&& (31 : Int32)) = 2 then
        DL_c2 N L xs (DL_law_23 N L xs w) v1 v2 v3 v4 f c z
      else
      if (x1 &&& (31 : Int32)) = 3 then
        DL_c3 N L xs (DL_law_23 N L xs w) v1 v2 v3 v4 f c z
      else
      if (x1 &&& (31 : Int32)) = 4 then
        DL_c4 N L xs (DL_law_23 N L xs w) v1 v2 v3 v4 f c z
      else
      if (x1 &&& (31 : Int32)) = 5 then
        DL_c5 N L xs (DL_law_23 N L xs w) v1 v2 v3 v4 f c z
      else
      if (x1 &&& (31 : Int32)) = 6 then
        DL_c6 N L xs (DL_law_23 N L xs w) v1 v2 v3 v4 f c z
      else
      if (x1 &&& (31 : Int32)) = 7 then
        DL_c7 N L xs (DL_law_23 N L xs w) v1 v2 v3 v4 f c z
      else
      if (x1 &&& (31 : Int32)) = 8 then
        DL_c8 N L xs (DL_law_23 N L xs w) v1 v2 v3 v4 f c z
      else
      if (x1 &&& (31 : Int32)) = 9 then
        DL_c9 N L xs (DL_law_23 N L xs w) v1 v2 v3 v4 f c z
      else
      if (x1 &&& (31 : Int32)) = 10 then
        DL_c10 N L xs (DL_law_23 N L xs w) v1 v2 v3 v4 f c z
      else
      if (x1 &&& (31 : Int32)) = 11 then
        DL_c11 N L xs (DL_law_23 N L xs w) v1 v2 v3 v4 f c z
      else
      if (x1 &&& (31 : Int32)) = 12 then
        DL_c12 N L xs (DL_law_23 N L xs w) v1 v2 v3 v4 f c z
      else
      if (x1 &&& (31 : Int32)) = 13 then
        DL_c13 N L xs (DL_law_23 N L xs w) v1 v2 v3 v4 f c z
      else
      if (x1 &&& (31 : Int32)) = 14 then
        DL_c14 N L xs (DL_law_23 N L xs w) v1 v2 v3 v4 f c z
      else
      if (x1 &&& (31 : Int32)) = 15 then
        DL_c15 N L xs (DL_law_23 N L xs w) v1 v2 v3 v4 f c z
      else
      if (x1 &&& (31 : Int32)) = 16 then
        DL_c16 N L xs (DL_law_23 N L xs w) v1 v2 v3 v4 f c z
      else
      if (x1 &&& (31 : Int32)) = 17 then
        DL_c17 N L xs (DL_law_23 N L xs w) v1 v2 v3 v4 f c z
      else
      if (x1 &&& (31 : Int32)) = 18 then
        DL_c18 N L xs (DL_law_23 N L xs w) v1 v2 v3 v4 f c z
      else
      if (x1 &&& (31 : Int32)) = 19 then
        DL_c19 N L xs (DL_law_23 N L xs w) v1 v2 v3 v4 f c z
      else
      DL_law_23 N L xs w v1 v2 v3 (v4 + 6) f (c + 1) (z + 6)
    else none

set_option maxRecDepth 20000 in
theorem tL_law_23 {l : Launch} {g : GT} (N b L : Nat) (xs : Nat → Int32) {r : Int32 × HF} : ∀ (w : Nat) (v1 : Nat) (v2 : Nat) (v3 : Nat) (v4 : Int32) (f : HF) (c z : Nat), DL_law_23 N L xs w v1 v2 v3 v4 f c z = some r → V l g (Scr g b L xs) (RL, cL_law, 7, (some .boolean), [], "law") 16 (.inl (some (.int r.1)), r.2, none, 600384, 7289834) 23 [(0, .ref b), (1, .ref v1), (2, .ref v2), (3, .ref v3), (4, .int v4)] [] f none c z := by
  intro w
  induction w with
  | zero => intro v1 v2 v3 v4 f c z h; cases h
  | succ w ih =>
    intro v1 v2 v3 v4 f c z h
    rw [DL_law_23] at h
    obtain ⟨hg, h⟩ := if_some h
    refine v_iload dL_law_23 rfl ?_
    refine v_aload_n dL_law_25 rfl rfl ?_
    refine v_slen dL_law_26 ?_
    refine v_bipush (v := 6) dL_law_27 (by decide) ?_
    refine v_isub dL_law_29 ?_
    refine v_icmp_gt (tgt := 1444) dL_law_30 (by decide) (fun c415 => ?_) (fun c415 => ?_)
    · replace h := ip_ c415 h
      refine v_iconst (v := 1) dL_law_1444 (by decide) ?_
      obtain rfl := Option.some.inj h
      exact v_zretW dL_law_1445 rfl (Or.inr rfl) rfl (by omega) (by omega)
    · replace h := in_ c415 h
      refine v_aload_n dL_law_33 rfl rfl ?_
      refine v_iload dL_law_34 rfl ?_
      obtain ⟨x1, hx1, h⟩ := ob_some h
      refine v_sld dL_law_36 hx1 ?_
      refine v_bipush (v := 31) dL_law_37 (by decide) ?_
      refine v_iand dL_law_39 ?_
      by_cases c2 : (x1 &&& (31 : Int32)) = 0
      · replace h := ip_ c2 h
        refine v_tableIn (tgt := 136) (off := 96) dL_law_40 (by rw [c2] <;> decide) (by rw [c2] <;> decide) (by rw [c2] <;> rfl) (by decide) ?_
        exact tL_c0 N b L xs _ ih v1 v2 v3 v4 f c z hg h
      replace h := in_ c2 h
      by_cases c22 : (x1 &&& (31 : Int32)) = 1
      · replace h := ip_ c22 h
        refine v_tableIn (tgt := 216) (off := 176) dL_law_40 (by rw [c22] <;> decide) (by rw [c22] <;> decide) (by rw [c22] <;> rfl) (by decide) ?_
        exact tL_c1 N b L xs _ ih v1 v2 v3 v4 f c z hg h
      replace h := in_ c22 h
      by_cases c40 : (x1 &&& (31 : Int32)) = 2
      · replace h := ip_ c40 h
        refine v_tableIn (tgt := 284) (off := 244) dL_law_40 (by rw [c40] <;> decide) (by rw [c40] <;> decide) (by rw [c40] <;> rfl) (by decide) ?_
        exact tL_c2 N b L xs _ ih v1 v2 v3 v4 f c z hg h
      replace h := in_ c40 h
      by_cases c58 : (x1 &&& (31 : Int32)) = 3
      · replace h := ip_ c58 h
        refine v_tableIn (tgt := 352) (off := 312) dL_law_40 (by rw [c58] <;> decide) (by rw [c58] <;> decide) (by rw [c58] <;> rfl) (by decide) ?_
        exact tL_c3 N b L xs _ ih v1 v2 v3 v4 f c z hg h
      replace h := in_ c58 h
      by_cases c78 : (x1 &&& (31 : Int32)) = 4
      · replace h := ip_ c78 h
        refine v_tableIn (tgt := 432) (off := 392) dL_law_40 (by rw [c78] <;> decide) (by rw [c78] <;> decide) (by rw [c78] <;> rfl) (by decide) ?_
        exact tL_c4 N b L xs _ ih v1 v2 v3 v4 f c z hg h
      replace h := in_ c78 h
      by_cases c99 : (x1 &&& (31 : Int32)) = 5
      · replace h := ip_ c99 h
        refine v_tableIn (tgt := 556) (off := 516) dL_law_40 (by rw [c99] <;> decide) (by rw [c99] <;> decide) (by rw [c99] <;> rfl) (by decide) ?_
        exact tL_c5 N b L xs _ ih v1 v2 v3 v4 f c z hg h
      replace h := in_ c99 h
      by_cases c121 : (x1 &&& (31 : Int32)) = 6
      · replace h := ip_ c121 h
        refine v_tableIn (tgt := 648) (off := 608) dL_law_40 (by rw [c121] <;> decide) (by rw [c121] <;> decide) (by rw [c121] <;> rfl) (by decide) ?_
        exact tL_c6 N b L xs _ ih v1 v2 v3 v4 f c z hg h
      replace h := in_ c121 h
      by_cases c129 : (x1 &&& (31 : Int32)) = 7
      · replace h := ip_ c129 h
        refine v_tableIn (tgt := 661) (off := 621) dL_law_40 (by rw [c129] <;> decide) (by rw [c129] <;> decide) (by rw [c129] <;> rfl) (by decide) ?_
        exact tL_c7 N b L xs _ ih v1 v2 v3 v4 f c z hg h
      replace h := in_ c129 h
      by_cases c145 : (x1 &&& (31 : Int32)) = 8
      · replace h := ip_ c145 h
        refine v_tableIn (tgt := 717) (off := 677) dL_law_40 (by rw [c145] <;> decide) (by rw [c145] <;> decide) (by rw [c145] <;> rfl) (by decide) ?_
        exact tL_c8 N b L xs _ ih v1 v2 v3 v4 f c z hg h
      replace h := in_ c145 h
      by_cases c201 : (x1 &&& (31 : Int32)) = 9
      · replace h := ip_ c201 h
        refine v_tableIn (tgt := 801) (off := 761) dL_law_40 (by rw [c201] <;> decide) (by rw [c201] <;> decide) (by rw [c201] <;> rfl) (by decide) ?_
        exact tL_c9 N b L xs _ ih v1 v2 v3 v4 f c z hg h
      replace h := in_ c201 h
      by_cases c219 : (x1 &&& (31 : Int32)) = 10
      · replace h := ip_ c219 h
        refine v_tableIn (tgt := 869) (off := 829) dL_law_40 (by rw [c219] <;> decide) (by rw [c219] <;> decide) (by rw [c219] <;> rfl) (by decide) ?_
        exact tL_c10 N b L xs _ ih v1 v2 v3 v4 f c z hg h
      replace h := in_ c219 h
      by_cases c235 : (x1 &&& (31 : Int32)) = 11
      · replace h := ip_ c235 h
        refine v_tableIn (tgt := 925) (off := 885) dL_law_40 (by rw [c235] <;> decide) (by rw [c235] <;> decide) (by rw [c235] <;> rfl) (by decide) ?_
        exact tL_c11 N b L xs _ ih v1 v2 v3 v4 f c z hg h
      replace h := in_ c235 h
      by_cases c251 : (x1 &&& (31 : Int32)) = 12
      · replace h := ip_ c251 h
        refine v_tableIn (tgt := 981) (off := 941) dL_law_40 (by rw [c251] <;> decide) (by rw [c251] <;> decide) (by rw [c251] <;> rfl) (by decide) ?_
        exact tL_c12 N b L xs _ ih v1 v2 v3 v4 f c z hg h
      replace h := in_ c251 h
      by_cases c267 : (x1 &&& (31 : Int32)) = 13
      · replace h := ip_ c267 h
        refine v_tableIn (tgt := 1037) (off := 997) dL_law_40 (by rw [c267] <;> decide) (by rw [c267] <;> decide) (by rw [c267] <;> rfl) (by decide) ?_
        exact tL_c13 N b L xs _ ih v1 v2 v3 v4 f c z hg h
      replace h := in_ c267 h
      by_cases c285 : (x1 &&& (31 : Int32)) = 14
      · replace h := ip_ c285 h
        refine v_tableIn (tgt := 1105) (off := 1065) dL_law_40 (by rw [c285] <;> decide) (by rw [c285] <;> decide) (by rw [c285] <;> rfl) (by decide) ?_
        exact tL_c14 N b L xs _ ih v1 v2 v3 v4 f c z hg h
      replace h := in_ c285 h
      by_cases c301 : (x1 &&& (31 : Int32)) = 15
      · replace h := ip_ c301 h
        refine v_tableIn (tgt := 1161) (off := 1121) dL_law_40 (by rw [c301] <;> decide) (by rw [c301] <;> decide) (by rw [c301] <;> rfl) (by decide) ?_
        exact tL_c15 N b L xs _ ih v1 v2 v3 v4 f c z hg h
      replace h := in_ c301 h
      by_cases c319 : (x1 &&& (31 : Int32)) = 16
      · replace h := ip_ c319 h
        refine v_tableIn (tgt := 1229) (off := 1189) dL_law_40 (by rw [c319] <;> decide) (by rw [c319] <;> decide) (by rw [c319] <;> rfl) (by decide) ?_
        exact tL_c16 N b L xs _ ih v1 v2 v3 v4 f c z hg h
      replace h := in_ c319 h
      by_cases c327 : (x1 &&& (31 : Int32)) = 17
      · replace h := ip_ c327 h
        refine v_tableIn (tgt := 1242) (off := 1202) dL_law_40 (by rw [c327] <;> decide) (by rw [c327] <;> decide) (by rw [c327] <;> rfl) (by decide) ?_
        exact tL_c17 N b L xs _ ih v1 v2 v3 v4 f c z hg h
      replace h := in_ c327 h
      by_cases c343 : (x1 &&& (31 : Int32)) = 18
      · replace h := ip_ c343 h
        refine v_tableIn (tgt := 1298) (off := 1258) dL_law_40 (by rw [c343] <;> decide) (by rw [c343] <;> decide) (by rw [c343] <;> rfl) (by decide) ?_
        exact tL_c18 N b L xs _ ih v1 v2 v3 v4 f c z hg h
      replace h := in_ c343 h
      by_cases c359 : (x1 &&& (31 : Int32)) = 19
      · replace h := ip_ c359 h
        refine v_tableIn (tgt := 1354) (off := 1314) dL_law_40 (by rw [c359] <;> decide) (by rw [c359] <;> decide) (by rw [c359] <;> rfl) (by decide) ?_
        exact tL_c19 N b L xs _ ih v1 v2 v3 v4 f c z hg h
      replace h := in_ c359 h
      refine v_tableOut (tgt := 1438) dL_law_40 (tsw_out (x1 &&& (31 : Int32)) 0 19 (fun y9 y1 y2 => by
        rcases (show y9 = 0 ∨ y9 = 1 ∨ y9 = 2 ∨ y9 = 3 ∨ y9 = 4 ∨ y9 = 5 ∨ y9 = 6 ∨ y9 = 7 ∨ y9 = 8 ∨ y9 = 9 ∨ y9 = 10 ∨ y9 = 11 ∨ y9 = 12 ∨ y9 = 13 ∨ y9 = 14 ∨ y9 = 15 ∨ y9 = 16 ∨ y9 = 17 ∨ y9 = 18 ∨ y9 = 19 by omega) with rfl | rfl | rfl | rfl | rfl | rfl | rfl | rfl | rfl | rfl | rfl | rfl | rfl | rfl | rfl | rfl | rfl | rfl | rfl | rfl
        · exact c2
        · exact c22
        · exact c40
        · exact c58
        · exact c78
        · exact c99
        · exact c121
        · exact c129
        · exact c145
        · exact c201
        · exact c219
        · exact c235
        · exact c251
        · exact c267
        · exact c285
        · exact c301
        · exact c319
        · exact c327
        · exact c343
        · exact c359
        )) (by decide) ?_
      refine v_iinc (v := (v4 + 6)) (ls1 := [(4, .int (v4 + 6)), (0, .ref b), (1, .ref v1), (2, .ref v2), (3, .ref v3)]) dL_law_1438 rfl rfl (by decide) rfl ?_
      refine v_goto (tgt := 23) dL_law_1441 (by decide) ?_
      exact v_sub (vs_c rfl (vs_c rfl (vs_c rfl (vs_c rfl (vs_c rfl vs_n))))) (v_wide (by omega) (by omega) (ih v1 v2 v3 (v4 + 6) f (c + 1) (z + 6) h))

