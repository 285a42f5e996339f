/-! THE LAW'S CASES -/
def DL_c0 (N L : Nat) (xs : Nat → Int32) (kk : Nat → Nat → Nat → Int32 → HF → Nat → Nat → Option (Int32 × HF)) (v1 : Nat) (v2 : Nat) (v3 : Nat) (v4 : Int32) (f : HF) (c z : Nat) : Option (Int32 × HF) :=
  (xsI L xs (v4 + (1 : Int32))).bind fun x3 =>
  (xsI L xs (v4 + (2 : Int32))).bind fun x4 =>
  (xsI L xs (v4 + (3 : Int32))).bind fun x5 =>
  bW (DL_field N v1 x3 x4 x5 v3 f) fun x6 f7 =>
  (xsI L xs (v4 + (1 : Int32))).bind fun x9 =>
  (xsI L xs (v4 + (2 : Int32))).bind fun x10 =>
  (xsI L xs (v4 + (3 : Int32))).bind fun x11 =>
  bW (DX10_field N v2 x9 x10 x11 f7) fun x12 f13 =>
  (DX10_thrown N v2 f13).bind fun x15 =>
  if x15 = x6 then
    if x6 = 0 then
      (aL f13 v3 (0 : Int32)).bind fun x18 =>
      if x18 = ((x12).toInt64) then
        kk v1 v2 v3 (v4 + 6) f13 (c + 1) (z + 6)
      else
        some ((0 : Int32), f13)
    else
      kk v1 v2 v3 (v4 + 6) f13 (c + 1) (z + 6)
  else
    some ((0 : Int32), f13)

set_option maxRecDepth 20000 in
theorem tL_c0 {l : Launch} {g : GT} (N b L : Nat) (xs : Nat → Int32) (kk : Nat → Nat → Nat → Int32 → HF → Nat → Nat → Option (Int32 × HF)) {r : Int32 × HF} (hkk : ∀ (w1 : Nat) (w2 : Nat) (w3 : Nat) (w4 : Int32) (f : HF) (c z : Nat), kk w1 w2 w3 w4 f c z = some r → V l g (Scr g b L xs) (RL, cL_law, 7, (some .boolean), [], "law") 16 (.inl (some (.int r.1)), r.2, none, 600384, 7289834) 23 [(0, .ref b), (1, .ref w1), (2, .ref w2), (3, .ref w3), (4, .int w4)] [] f none c z) (v1 : Nat) (v2 : Nat) (v3 : Nat) (v4 : Int32) (f : HF) (c z : Nat) (hg : c + 1 ≤ 600384 ∧ z + 6 ≤ 7289834) (h : DL_c0 N L xs kk v1 v2 v3 v4 f c z = some r) : V l g (Scr g b L xs) (RL, cL_law, 7, (some .boolean), [], "law") 16 (.inl (some (.int r.1)), r.2, none, 600384, 7289834) 136 [(0, .ref b), (1, .ref v1), (2, .ref v2), (3, .ref v3), (4, .int v4)] [] f none c z := by
  unfold DL_c0 at h
  refine v_aload_n dL_law_136 rfl rfl ?_
  refine v_aload_n dL_law_137 rfl rfl ?_
  refine v_iload dL_law_138 rfl ?_
  refine v_iconst (v := 1) dL_law_140 (by decide) ?_
  refine v_iadd dL_law_141 ?_
  obtain ⟨x3, hx3, h⟩ := ob_some h
  refine v_sld dL_law_142 hx3 ?_
  refine v_aload_n dL_law_143 rfl rfl ?_
  refine v_iload dL_law_144 rfl ?_
  refine v_iconst (v := 2) dL_law_146 (by decide) ?_
  refine v_iadd dL_law_147 ?_
  obtain ⟨x4, hx4, h⟩ := ob_some h
  refine v_sld dL_law_148 hx4 ?_
  refine v_aload_n dL_law_149 rfl rfl ?_
  refine v_iload dL_law_150 rfl ?_
  refine v_iconst (v := 3) dL_law_152 (by decide) ?_
  refine v_iadd dL_law_153 ?_
  obtain ⟨x5, hx5, h⟩ := ob_some h
  refine v_sld dL_law_154 hx5 ?_
  refine v_aload_n dL_law_155 rfl rfl ?_
  obtain ⟨x6, f7, hx8, h⟩ := bW_some h
  have ehx8 := tL_field (l := l) (g := g) (sz := none) N v1 x3 x4 x5 v3 f hx8
  refine v_gSX dL_law_156 ml_L_85 ok_L_field ehx8 (by decide) rfl (rest := []) rfl (Nat.le_of_ble_eq_true rfl) ⟨by show _ ≤ 600384; omega, by show _ ≤ 7289834; omega⟩ ?_
  refine v_istore (ls1 := [(5, .int x6), (0, .ref b), (1, .ref v1), (2, .ref v2), (3, .ref v3), (4, .int v4)]) dL_law_159 (by decide) rfl ?_
  refine v_aload_n dL_law_161 rfl rfl ?_
  refine v_aload_n dL_law_162 rfl rfl ?_
  refine v_iload dL_law_163 rfl ?_
  refine v_iconst (v := 1) dL_law_165 (by decide) ?_
  refine v_iadd dL_law_166 ?_
  obtain ⟨x9, hx9, h⟩ := ob_some h
  refine v_sld dL_law_167 hx9 ?_
  refine v_aload_n dL_law_168 rfl rfl ?_
  refine v_iload dL_law_169 rfl ?_
  refine v_iconst (v := 2) dL_law_171 (by decide) ?_
  refine v_iadd dL_law_172 ?_
  obtain ⟨x10, hx10, h⟩ := ob_some h
  refine v_sld dL_law_173 hx10 ?_
  refine v_aload_n dL_law_174 rfl rfl ?_
  refine v_iload dL_law_175 rfl ?_
  refine v_iconst (v := 3) dL_law_177 (by decide) ?_
  refine v_iadd dL_law_178 ?_
  obtain ⟨x11, hx11, h⟩ := ob_some h
  refine v_sld dL_law_179 hx11 ?_
  obtain ⟨x12, f13, hx14, h⟩ := bW_some h
  have ehx14 := tX10_field (l := l) (g := g) (sz := none) N v2 x9 x10 x11 f7 hx14
  refine v_gVI dL_law_180 ml_L_90 ok_X10_field ehx14 (kX10_field N v2 x9 x10 x11 f7 hx14) rfl (by decide) rfl (rest := []) rfl (Nat.le_of_ble_eq_true rfl) ⟨by show _ ≤ 600384; omega, by show _ ≤ 7289834; omega⟩ ?_
  refine v_istore (ls1 := [(6, .int x12), (5, .int x6), (0, .ref b), (1, .ref v1), (2, .ref v2), (3, .ref v3), (4, .int v4)]) dL_law_183 (by decide) rfl ?_
  refine v_aload_n dL_law_185 rfl rfl ?_
  obtain ⟨x15, hx17, h⟩ := ob_some h
  have ehx17 := tX10_thrown (l := l) (g := g) (sz := none) N v2 f13 hx17
  refine v_gVI dL_law_186 ml_L_91 ok_X10_thrown ehx17 (kX10_thrown N v2 f13 hx17) rfl (by decide) rfl (rest := []) rfl (Nat.le_of_ble_eq_true rfl) ⟨by show _ ≤ 600384; omega, by show _ ≤ 7289834; omega⟩ ?_
  refine v_iload dL_law_189 rfl ?_
  refine v_icmp_eq (tgt := 196) dL_law_191 (by decide) (fun c21 => ?_) (fun c21 => ?_)
  · replace h := ip_ c21 h
    refine v_iload dL_law_196 rfl ?_
    refine v_if_ne (tgt := 213) dL_law_198 (by decide) (fun c20 => ?_) (fun c20 => ?_)
    · replace h := in_ c20 h
      refine v_goto (tgt := 1438) dL_law_213 (by decide) ?_
      refine v_iinc (v := (v4 + 6)) (ls1 := [(4, .int (v4 + 6)), (6, .int x12), (5, .int x6), (0, .ref b), (1, .ref v1), (2, .ref v2), (3, .ref v3)]) dL_law_1438 rfl rfl (by decide) rfl ?_
      refine v_goto (tgt := 23) dL_law_1441 (by decide) ?_
      exact v_sub (vs_c rfl (vs_c rfl (vs_c rfl (vs_c rfl (vs_c rfl vs_n))))) (v_wide (by omega) (by omega) (hkk v1 v2 v3 (v4 + 6) f13 (c + 1) (z + 6) h))
    · replace h := ip_ c20 h
      refine v_aload_n dL_law_201 rfl rfl ?_
      refine v_iconst (v := 0) dL_law_202 (by decide) ?_
      obtain ⟨x18, hx18, h⟩ := ob_some h
      refine v_lald dL_law_203 hx18 ?_
      refine v_iload dL_law_204 rfl ?_
      refine v_i2l dL_law_206 ?_
      refine v_lcmp_eq (tgt := 213) dL_law_207 dL_law_208 (by decide) (fun c19 => ?_) (fun c19 => ?_)
      · replace h := ip_ c19 h
        refine v_goto (tgt := 1438) dL_law_213 (by decide) ?_
        refine v_iinc (v := (v4 + 6)) (ls1 := [(4, .int (v4 + 6)), (6, .int x12), (5, .int x6), (0, .ref b), (1, .ref v1), (2, .ref v2), (3, .ref v3)]) dL_law_1438 rfl rfl (by decide) rfl ?_
        refine v_goto (tgt := 23) dL_law_1441 (by decide) ?_
        exact v_sub (vs_c rfl (vs_c rfl (vs_c rfl (vs_c rfl (vs_c rfl vs_n))))) (v_wide (by omega) (by omega) (hkk v1 v2 v3 (v4 + 6) f13 (c + 1) (z + 6) h))
      · replace h := in_ c19 h
        refine v_iconst (v := 0) dL_law_211 (by decide) ?_
        obtain rfl := Option.some.inj h
        exact v_zretW dL_law_212 rfl (Or.inl rfl) rfl (by omega) (by omega)
  · replace h := in_ c21 h
    refine v_iconst (v := 0) dL_law_194 (by decide) ?_
    obtain rfl := Option.some.inj h
    exact v_zretW dL_law_195 rfl (Or.inl rfl) rfl (by omega) (by omega)

def DL_c1 (N L : Nat) (xs : Nat → Int32) (kk : Nat → Nat → Nat → Int32 → HF → Nat → Nat → Option (Int32 × HF)) (v1 : Nat) (v2 : Nat) (v3 : Nat) (v4 : Int32) (f : HF) (c z : Nat) : Option (Int32 × HF) :=
  (xsI L xs (v4 + (1 : Int32))).bind fun x23 =>
  (xsI L xs (v4 + (2 : Int32))).bind fun x24 =>
  bW (DL_value N v1 x23 x24 v3 f) fun x25 f26 =>
  (xsI L xs (v4 + (1 : Int32))).bind fun x28 =>
  (xsI L xs (v4 + (2 : Int32))).bind fun x29 =>
  bW (DX10_value N v2 x28 x29 f26) fun x30 f31 =>
  (DX10_thrown N v2 f31).bind fun x33 =>
  if x33 = x25 then
    if x25 = 0 then
      (aL f31 v3 (0 : Int32)).bind fun x36 =>
      if x36 = ((x30).toInt64) then
        kk v1 v2 v3 (v4 + 6) f31 (c + 1) (z + 6)
      else
        some ((0 : Int32), f31)
    else
      kk v1 v2 v3 (v4 + 6) f31 (c + 1) (z + 6)
  else
    some ((0 : Int32), f31)

set_option maxRecDepth 20000 in
theorem tL_c1 {l : Launch} {g : GT} (N b L : Nat) (xs : Nat → Int32) (kk : Nat → Nat → Nat → Int32 → HF → Nat → Nat → Option (Int32 × HF)) {r : Int32 × HF} (hkk : ∀ (w1 : Nat) (w2 : Nat) (w3 : Nat) (w4 : Int32) (f : HF) (c z : Nat), kk w1 w2 w3 w4 f c z = some r → V l g (Scr g b L xs) (RL, cL_law, 7, (some .boolean), [], "law") 16 (.inl (some (.int r.1)), r.2, none, 600384, 7289834) 23 [(0, .ref b), (1, .ref w1), (2, .ref w2), (3, .ref w3), (4, .int w4)] [] f none c z) (v1 : Nat) (v2 : Nat) (v3 : Nat) (v4 : Int32) (f : HF) (c z : Nat) (hg : c + 1 ≤ 600384 ∧ z + 6 ≤ 7289834) (h : DL_c1 N L xs kk v1 v2 v3 v4 f c z = some r) : V l g (Scr g b L xs) (RL, cL_law, 7, (some .boolean), [], "law") 16 (.inl (some (.int r.1)), r.2, none, 600384, 7289834) 216 [(0, .ref b), (1, .ref v1), (2, .ref v2), (3, .ref v3), (4, .int v4)] [] f none c z := by
  unfold DL_c1 at h
  refine v_aload_n dL_law_216 rfl rfl ?_
  refine v_aload_n dL_law_217 rfl rfl ?_
  refine v_iload dL_law_218 rfl ?_
  refine v_iconst (v := 1) dL_law_220 (by decide) ?_
  refine v_iadd dL_law_221 ?_
  obtain ⟨x23, hx23, h⟩ := ob_some h
  refine v_sld dL_law_222 hx23 ?_
  refine v_aload_n dL_law_223 rfl rfl ?_
  refine v_iload dL_law_224 rfl ?_
  refine v_iconst (v := 2) dL_law_226 (by decide) ?_
  refine v_iadd dL_law_227 ?_
  obtain ⟨x24, hx24, h⟩ := ob_some h
  refine v_sld dL_law_228 hx24 ?_
  refine v_aload_n dL_law_229 rfl rfl ?_
  obtain ⟨x25, f26, hx27, h⟩ := bW_some h
  have ehx27 := tL_value (l := l) (g := g) (sz := none) N v1 x23 x24 v3 f hx27
  refine v_gSX dL_law_230 ml_L_95 ok_L_value ehx27 (by decide) rfl (rest := []) rfl (Nat.le_of_ble_eq_true rfl) ⟨by show _ ≤ 600384; omega, by show _ ≤ 7289834; omega⟩ ?_
  refine v_istore (ls1 := [(5, .int x25), (0, .ref b), (1, .ref v1), (2, .ref v2), (3, .ref v3), (4, .int v4)]) dL_law_233 (by decide) rfl ?_
  refine v_aload_n dL_law_235 rfl rfl ?_
  refine v_aload_n dL_law_236 rfl rfl ?_
  refine v_iload dL_law_237 rfl ?_
  refine v_iconst (v := 1) dL_law_239 (by decide) ?_
  refine v_iadd dL_law_240 ?_
  obtain ⟨x28, hx28, h⟩ := ob_some h
  refine v_sld dL_law_241 hx28 ?_
  refine v_aload_n dL_law_242 rfl rfl ?_
  refine v_iload dL_law_243 rfl ?_
  refine v_iconst (v := 2) dL_law_245 (by decide) ?_
  refine v_iadd dL_law_246 ?_
  obtain ⟨x29, hx29, h⟩ := ob_some h
  refine v_sld dL_law_247 hx29 ?_
  obtain ⟨x30, f31, hx32, h⟩ := bW_some h
  have ehx32 := tX10_value (l := l) (g := g) (sz := none) N v2 x28 x29 f26 hx32
  refine v_gVI dL_law_248 ml_L_98 ok_X10_value ehx32 (kX10_value N v2 x28 x29 f26 hx32) rfl (by decide) rfl (rest := []) rfl (Nat.le_of_ble_eq_true rfl) ⟨by show _ ≤ 600384; omega, by show _ ≤ 7289834; omega⟩ ?_
  refine v_istore (ls1 := [(6, .int x30), (5, .int x25), (0, .ref b), (1, .ref v1), (2, .ref v2), (3, .ref v3), (4, .int v4)]) dL_law_251 (by decide) rfl ?_
  refine v_aload_n dL_law_253 rfl rfl ?_
  obtain ⟨x33, hx35, h⟩ := ob_some h
  have ehx35 := tX10_thrown (l := l) (g := g) (sz := none) N v2 f31 hx35
  refine v_gVI dL_law_254 ml_L_91 ok_X10_thrown ehx35 (kX10_thrown N v2 f31 hx35) rfl (by decide) rfl (rest := []) rfl (Nat.le_of_ble_eq_true rfl) ⟨by show _ ≤ 600384; omega, by show _ ≤ 7289834; omega⟩ ?_
  refine v_iload dL_law_257 rfl ?_
  refine v_icmp_eq (tgt := 264) dL_law_259 (by decide) (fun c39 => ?_) (fun c39 => ?_)
  · replace h := ip_ c39 h
    refine v_iload dL_law_264 rfl ?_
    refine v_if_ne (tgt := 281) dL_law_266 (by decide) (fun c38 => ?_) (fun c38 => ?_)
    · replace h := in_ c38 h
      refine v_goto (tgt := 1438) dL_law_281 (by decide) ?_
      refine v_iinc (v := (v4 + 6)) (ls1 := [(4, .int (v4 + 6)), (6, .int x30), (5, .int x25), (0, .ref b), (1, .ref v1), (2, .ref v2), (3, .ref v3)]) dL_law_1438 rfl rfl (by decide) rfl ?_
      refine v_goto (tgt := 23) dL_law_1441 (by decide) ?_
      exact v_sub (vs_c rfl (vs_c rfl (vs_c rfl (vs_c rfl (vs_c rfl vs_n))))) (v_wide (by omega) (by omega) (hkk v1 v2 v3 (v4 + 6) f31 (c + 1) (z + 6) h))
    · replace h := ip_ c38 h
      refine v_aload_n dL_law_269 rfl rfl ?_
      refine v_iconst (v := 0) dL_law_270 (by decide) ?_
      obtain ⟨x36, hx36, h⟩ := ob_some h
      refine v_lald dL_law_271 hx36 ?_
      refine v_iload dL_law_272 rfl ?_
      refine v_i2l dL_law_274 ?_
      refine v_lcmp_eq (tgt := 281) dL_law_275 dL_law_276 (by decide) (fun c37 => ?_) (fun c37 => ?_)
      · replace h := ip_ c37 h
        refine v_goto (tgt := 1438) dL_law_281 (by decide) ?_
        refine v_iinc (v := (v4 + 6)) (ls1 := [(4, .int (v4 + 6)), (6, .int x30), (5, .int x25), (0, .ref b), (1, .ref v1), (2, .ref v2), (3, .ref v3)]) dL_law_1438 rfl rfl (by decide) rfl ?_
        refine v_goto (tgt := 23) dL_law_1441 (by decide) ?_
        exact v_sub (vs_c rfl (vs_c rfl (vs_c rfl (vs_c rfl (vs_c rfl vs_n))))) (v_wide (by omega) (by omega) (hkk v1 v2 v3 (v4 + 6) f31 (c + 1) (z + 6) h))
      · replace h := in_ c37 h
        refine v_iconst (v := 0) dL_law_279 (by decide) ?_
        obtain rfl := Option.some.inj h
        exact v_zretW dL_law_280 rfl (Or.inl rfl) rfl (by omega) (by omega)
  · replace h := in_ c39 h
    refine v_iconst (v := 0) dL_law_262 (by decide) ?_
    obtain rfl := Option.some.inj h
    exact v_zretW dL_law_263 rfl (Or.inl rfl) rfl (by omega) (by omega)

def DL_c2 (N L : Nat) (xs : Nat → Int32) (kk : Nat → Nat → Nat → Int32 → HF → Nat → Nat → Option (Int32 × HF)) (v1 : Nat) (v2 : Nat) (v3 : Nat) (v4 : Int32) (f : HF) (c z : Nat) : Option (Int32 × HF) :=
  (xsI L xs (v4 + (1 : Int32))).bind fun x41 =>
  (xsI L xs (v4 + (2 : Int32))).bind fun x42 =>
  bW (DL_option N v1 x41 x42 v3 f) fun x43 f44 =>
  (xsI L xs (v4 + (1 : Int32))).bind fun x46 =>
  (xsI L xs (v4 + (2 : Int32))).bind fun x47 =>
  bW (DX10_option N v2 x46 x47 f44) fun x48 f49 =>
  (DX10_thrown N v2 f49).bind fun x51 =>
  if x51 = x43 then
    if x43 = 0 then
      (aL f49 v3 (0 : Int32)).bind fun x54 =>
      if x54 = ((x48).toInt64) then
        kk v1 v2 v3 (v4 + 6) f49 (c + 1) (z + 6)
      else
        some ((0 : Int32), f49)
    else
      kk v1 v2 v3 (v4 + 6) f49 (c + 1) (z + 6)
  else
    some ((0 : Int32), f49)

set_option maxRecDepth 20000 in
theorem tL_c2 {l : Launch} {g : GT} (N b L : Nat) (xs : Nat → Int32) (kk : Nat → Nat → Nat → Int32 → HF → Nat → Nat → Option (Int32 × HF)) {r : Int32 × HF} (hkk : ∀ (w1 : Nat) (w2 : Nat) (w3 : Nat) (w4 : Int32) (f : HF) (c z : Nat), kk w1 w2 w3 w4 f c z = some r → V l g (Scr g b L xs) (RL, cL_law, 7, (some .boolean), [], "law") 16 (.inl (some (.int r.1)), r.2, none, 600384, 7289834) 23 [(0, .ref b), (1, .ref w1), (2, .ref w2), (3, .ref w3), (4, .int w4)] [] f none c z) (v1 : Nat) (v2 : Nat) (v3 : Nat) (v4 : Int32) (f : HF) (c z : Nat) (hg : c + 1 ≤ 600384 ∧ z + 6 ≤ 7289834) (h : DL_c2 N L xs kk v1 v2 v3 v4 f c z = some r) : V l g (Scr g b L xs) (RL, cL_law, 7, (some .boolean), [], "law") 16 (.inl (some (.int r.1)), r.2, none, 600384, 7289834) 284 [(0, .ref b), (1, .ref v1), (2, .ref v2), (3, .ref v3), (4, .int v4)] [] f none c z := by
  unfold DL_c2 at h
  refine v_aload_n dL_law_284 rfl rfl ?_
  refine v_aload_n dL_law_285 rfl rfl ?_
  refine v_iload dL_law_286 rfl ?_
  refine v_iconst (v := 1) dL_law_288 (by decide) ?_
  refine v_iadd dL_law_289 ?_
  obtain ⟨x41, hx41, h⟩ := ob_some h
  refine v_sld dL_law_290 hx41 ?_
  refine v_aload_n dL_law_291 rfl rfl ?_
  refine v_iload dL_law_292 rfl ?_
  refine v_iconst (v := 2) dL_law_294 (by decide) ?_
  refine v_iadd dL_law_295 ?_
  obtain ⟨x42, hx42, h⟩ := ob_some h
  refine v_sld dL_law_296 hx42 ?_
  refine v_aload_n dL_law_297 rfl rfl ?_
  obtain ⟨x43, f44, hx45, h⟩ := bW_some h
  have ehx45 := tL_option (l := l) (g := g) (sz := none) N v1 x41 x42 v3 f hx45
  refine v_gSX dL_law_298 ml_L_99 ok_L_option ehx45 (by decide) rfl (rest := []) rfl (Nat.le_of_ble_eq_true rfl) ⟨by show _ ≤ 600384; omega, by show _ ≤ 7289834; omega⟩ ?_
  refine v_istore (ls1 := [(5, .int x43), (0, .ref b), (1, .ref v1), (2, .ref v2), (3, .ref v3), (4, .int v4)]) dL_law_301 (by decide) rfl ?_
  refine v_aload_n dL_law_303 rfl rfl ?_
  refine v_aload_n dL_law_304 rfl rfl ?_
  refine v_iload dL_law_305 rfl ?_
  refine v_iconst (v := 1) dL_law_307 (by decide) ?_
  refine v_iadd dL_law_308 ?_
  obtain ⟨x46, hx46, h⟩ := ob_some h
  refine v_sld dL_law_309 hx46 ?_
  refine v_aload_n dL_law_310 rfl rfl ?_
  refine v_iload dL_law_311 rfl ?_
  refine v_iconst (v := 2) dL_law_313 (by decide) ?_
  refine v_iadd dL_law_314 ?_
  obtain ⟨x47, hx47, h⟩ := ob_some h
  refine v_sld dL_law_315 hx47 ?_
  obtain ⟨x48, f49, hx50, h⟩ := bW_some h
  have ehx50 := tX10_option (l := l) (g := g) (sz := none) N v2 x46 x47 f44 hx50
  refine v_gVI dL_law_316 ml_L_101 ok_X10_option ehx50 (kX10_option N v2 x46 x47 f44 hx50) rfl (by decide) rfl (rest := []) rfl (Nat.le_of_ble_eq_true rfl) ⟨by show _ ≤ 600384; omega, by show _ ≤ 7289834; omega⟩ ?_
  refine v_istore (ls1 := [(6, .int x48), (5, .int x43), (0, .ref b), (1, .ref v1), (2, .ref v2), (3, .ref v3), (4, .int v4)]) dL_law_319 (by decide) rfl ?_
  refine v_aload_n dL_law_321 rfl rfl ?_
  obtain ⟨x51, hx53, h⟩ := ob_some h
  have ehx53 := tX10_thrown (l := l) (g := g) (sz := none) N v2 f49 hx53
  refine v_gVI dL_law_322 ml_L_91 ok_X10_thrown ehx53 (kX10_thrown N v2 f49 hx53) rfl (by decide) rfl (rest := []) rfl (Nat.le_of_ble_eq_true rfl) ⟨by show _ ≤ 600384; omega, by show _ ≤ 7289834; omega⟩ ?_
  refine v_iload dL_law_325 rfl ?_
  refine v_icmp_eq (tgt := 332) dL_law_327 (by decide) (fun c57 => ?_) (fun c57 => ?_)
  · replace h := ip_ c57 h
    refine v_iload dL_law_332 rfl ?_
    refine v_if_ne (tgt := 349) dL_law_334 (by decide) (fun c56 => ?_) (fun c56 => ?_)
    · replace h := in_ c56 h
      refine v_goto (tgt := 1438) dL_law_349 (by decide) ?_
      refine v_iinc (v := (v4 + 6)) (ls1 := [(4, .int (v4 + 6)), (6, .int x48), (5, .int x43), (0, .ref b), (1, .ref v1), (2, .ref v2), (3, .ref v3)]) dL_law_1438 rfl rfl (by decide) rfl ?_
      refine v_goto (tgt := 23) dL_law_1441 (by decide) ?_
      exact v_sub (vs_c rfl (vs_c rfl (vs_c rfl (vs_c rfl (vs_c rfl vs_n))))) (v_wide (by omega) (by omega) (hkk v1 v2 v3 (v4 + 6) f49 (c + 1) (z + 6) h))
    · replace h := ip_ c56 h
      refine v_aload_n dL_law_337 rfl rfl ?_
      refine v_iconst (v := 0) dL_law_338 (by decide) ?_
      obtain ⟨x54, hx54, h⟩ := ob_some h
      refine v_lald dL_law_339 hx54 ?_
      refine v_iload dL_law_340 rfl ?_
      refine v_i2l dL_law_342 ?_
      refine v_lcmp_eq (tgt := 349) dL_law_343 dL_law_344 (by decide) (fun c55 => ?_) (fun c55 => ?_)
      · replace h := ip_ c55 h
        refine v_goto (tgt := 1438) dL_law_349 (by decide) ?_
        refine v_iinc (v := (v4 + 6)) (ls1 := [(4, .int (v4 + 6)), (6, .int x48), (5, .int x43), (0, .ref b), (1, .ref v1), (2, .ref v2), (3, .ref v3)]) dL_law_1438 rfl rfl (by decide) rfl ?_
        refine v_goto (tgt := 23) dL_law_1441 (by decide) ?_
        exact v_sub (vs_c rfl (vs_c rfl (vs_c rfl (vs_c rfl (vs_c rfl vs_n))))) (v_wide (by omega) (by omega) (hkk v1 v2 v3 (v4 + 6) f49 (c + 1) (z + 6) h))
      · replace h := in_ c55 h
        refine v_iconst (v := 0) dL_law_347 (by decide) ?_
        obtain rfl := Option.some.inj h
        exact v_zretW dL_law_348 rfl (Or.inl rfl) rfl (by omega) (by omega)
  · replace h := in_ c57 h
    refine v_iconst (v := 0) dL_law_330 (by decide) ?_
    obtain rfl := Option.some.inj h
    exact v_zretW dL_law_331 rfl (Or.inl rfl) rfl (by omega) (by omega)

def DL_c3 (N L : Nat) (xs : Nat → Int32) (kk : Nat → Nat → Nat → Int32 → HF → Nat → Nat → Option (Int32 × HF)) (v1 : Nat) (v2 : Nat) (v3 : Nat) (v4 : Int32) (f : HF) (c z : Nat) : Option (Int32 × HF) :=
  (xsI L xs (v4 + (1 : Int32))).bind fun x59 =>
  (xsI L xs (v4 + (2 : Int32))).bind fun x60 =>
  (xsI L xs (v4 + (3 : Int32))).bind fun x61 =>
  bW (DL_set N v1 x59 x60 x61 v3 f) fun x62 f63 =>
  (xsI L xs (v4 + (1 : Int32))).bind fun x65 =>
  (xsI L xs (v4 + (2 : Int32))).bind fun x66 =>
  (xsI L xs (v4 + (3 : Int32))).bind fun x67 =>
  bW (DX10_set N v2 x65 x66 x67 f63) fun x68 f69 =>
  (DX10_thrown N v2 f69).bind fun x71 =>
  if x71 = x62 then
    if x62 = 0 then
      (aL f69 v3 (0 : Int32)).bind fun x74 =>
      if x74 = ((x68).toInt64) then
        kk v1 v2 v3 (v4 + 6) f69 (c + 1) (z + 6)
      else
        some ((0 : Int32), f69)
    else
      kk v1 v2 v3 (v4 + 6) f69 (c + 1) (z + 6)
  else
    some ((0 : Int32), f69)

set_option maxRecDepth 20000 in
theorem tL_c3 {l : Launch} {g : GT} (N b L : Nat) (xs : Nat → Int32) (kk : Nat → Nat → Nat → Int32 → HF → Nat → Nat → Option (Int32 × HF)) {r : Int32 × HF} (hkk : ∀ (w1 : Nat) (w2 : Nat) (w3 : Nat) (w4 : Int32) (f : HF) (c z : Nat), kk w1 w2 w3 w4 f c z = some r → V l g (Scr g b L xs) (RL, cL_law, 7, (some .boolean), [], "law") 16 (.inl (some (.int r.1)), r.2, none, 600384, 7289834) 23 [(0, .ref b), (1, .ref w1), (2, .ref w2), (3, .ref w3), (4, .int w4)] [] f none c z) (v1 : Nat) (v2 : Nat) (v3 : Nat) (v4 : Int32) (f : HF) (c z : Nat) (hg : c + 1 ≤ 600384 ∧ z + 6 ≤ 7289834) (h : DL_c3 N L xs kk v1 v2 v3 v4 f c z = some r) : V l g (Scr g b L xs) (RL, cL_law, 7, (some .boolean), [], "law") 16 (.inl (some (.int r.1)), r.2, none, 600384, 7289834) 352 [(0, .ref b), (1, .ref v1), (2, .ref v2), (3, .ref v3), (4, .int v4)] [] f none c z := by
  unfold DL_c3 at h
  refine v_aload_n dL_law_352 rfl rfl ?_
  refine v_aload_n dL_law_353 rfl rfl ?_
  refine v_iload dL_law_354 rfl ?_
  refine v_iconst (v := 1) dL_law_356 (by decide) ?_
  refine v_iadd dL_law_357 ?_
  obtain ⟨x59, hx59, h⟩ := ob_some h
  refine v_sld dL_law_358 hx59 ?_
  refine v_aload_n dL_law_359 rfl rfl ?_
  refine v_iload dL_law_360 rfl ?_
  refine v_iconst (v := 2) dL_law_362 (by decide) ?_
  refine v_iadd dL_law_363 ?_
  obtain ⟨x60, hx60, h⟩ := ob_some h
  refine v_sld dL_law_364 hx60 ?_
  refine v_aload_n dL_law_365 rfl rfl ?_
  refine v_iload dL_law_366 rfl ?_
  refine v_iconst (v := 3) dL_law_368 (by decide) ?_
  refine v_iadd dL_law_369 ?_
  obtain ⟨x61, hx61, h⟩ := ob_some h
  refine v_sld dL_law_370 hx61 ?_
  refine v_aload_n dL_law_371 rfl rfl ?_
  obtain ⟨x62, f63, hx64, h⟩ := bW_some h
  have ehx64 := tL_set (l := l) (g := g) (sz := none) N v1 x59 x60 x61 v3 f hx64
  refine v_gSX dL_law_372 ml_L_102 ok_L_set ehx64 (by decide) rfl (rest := []) rfl (Nat.le_of_ble_eq_true rfl) ⟨by show _ ≤ 600384; omega, by show _ ≤ 7289834; omega⟩ ?_
  refine v_istore (ls1 := [(5, .int x62), (0, .ref b), (1, .ref v1), (2, .ref v2), (3, .ref v3), (4, .int v4)]) dL_law_375 (by decide) rfl ?_
  refine v_aload_n dL_law_377 rfl rfl ?_
  refine v_aload_n dL_law_378 rfl rfl ?_
  refine v_iload dL_law_379 rfl ?_
  refine v_iconst (v := 1) dL_law_381 (by decide) ?_
  refine v_iadd dL_law_382 ?_
  obtain ⟨x65, hx65, h⟩ := ob_some h
  refine v_sld dL_law_383 hx65 ?_
  refine v_aload_n dL_law_384 rfl rfl ?_
  refine v_iload dL_law_385 rfl ?_
  refine v_iconst (v := 2) dL_law_387 (by decide) ?_
  refine v_iadd dL_law_388 ?_
  obtain ⟨x66, hx66, h⟩ := ob_some h
  refine v_sld dL_law_389 hx66 ?_
  refine v_aload_n dL_law_390 rfl rfl ?_
  refine v_iload dL_law_391 rfl ?_
  refine v_iconst (v := 3) dL_law_393 (by decide) ?_
  refine v_iadd dL_law_394 ?_
  obtain ⟨x67, hx67, h⟩ := ob_some h
  refine v_sld dL_law_395 hx67 ?_
  obtain ⟨x68, f69, hx70, h⟩ := bW_some h
  have ehx70 := tX10_set (l := l) (g := g) (sz := none) N v2 x65 x66 x67 f63 hx70
  refine v_gVI dL_law_396 ml_L_104 ok_X10_set ehx70 (kX10_set N v2 x65 x66 x67 f63 hx70) rfl (by decide) rfl (rest := []) rfl (Nat.le_of_ble_eq_true rfl) ⟨by show _ ≤ 600384; omega, by show _ ≤ 7289834; omega⟩ ?_
  refine v_istore (ls1 := [(6, .int x68), (5, .int x62), (0, .ref b), (1, .ref v1), (2, .ref v2), (3, .ref v3), (4, .int v4)]) dL_law_399 (by decide) rfl ?_
  refine v_aload_n dL_law_401 rfl rfl ?_
  obtain ⟨x71, hx73, h⟩ := ob_some h
  have ehx73 := tX10_thrown (l := l) (g := g) (sz := none) N v2 f69 hx73
  refine v_gVI dL_law_402 ml_L_91 ok_X10_thrown ehx73 (kX10_thrown N v2 f69 hx73) rfl (by decide) rfl (rest := []) rfl (Nat.le_of_ble_eq_true rfl) ⟨by show _ ≤ 600384; omega, by show _ ≤ 7289834; omega⟩ ?_
  refine v_iload dL_law_405 rfl ?_
  refine v_icmp_eq (tgt := 412) dL_law_407 (by decide) (fun c77 => ?_) (fun c77 => ?_)
  · replace h := ip_ c77 h
    refine v_iload dL_law_412 rfl ?_
    refine v_if_ne (tgt := 429) dL_law_414 (by decide) (fun c76 => ?_) (fun c76 => ?_)
    · replace h := in_ c76 h
      refine v_goto (tgt := 1438) dL_law_429 (by decide) ?_
      refine v_iinc (v := (v4 + 6)) (ls1 := [(4, .int (v4 + 6)), (6, .int x68), (5, .int x62), (0, .ref b), (1, .ref v1), (2, .ref v2), (3, .ref v3)]) dL_law_1438 rfl rfl (by decide) rfl ?_
      refine v_goto (tgt := 23) dL_law_1441 (by decide) ?_
      exact v_sub (vs_c rfl (vs_c rfl (vs_c rfl (vs_c rfl (vs_c rfl vs_n))))) (v_wide (by omega) (by omega) (hkk v1 v2 v3 (v4 + 6) f69 (c + 1) (z + 6) h))
    · replace h := ip_ c76 h
      refine v_aload_n dL_law_417 rfl rfl ?_
      refine v_iconst (v := 0) dL_law_418 (by decide) ?_
      obtain ⟨x74, hx74, h⟩ := ob_some h
      refine v_lald dL_law_419 hx74 ?_
      refine v_iload dL_law_420 rfl ?_
      refine v_i2l dL_law_422 ?_
      refine v_lcmp_eq (tgt := 429) dL_law_423 dL_law_424 (by decide) (fun c75 => ?_) (fun c75 => ?_)
      · replace h := ip_ c75 h
        refine v_goto (tgt := 1438) dL_law_429 (by decide) ?_
        refine v_iinc (v := (v4 + 6)) (ls1 := [(4, .int (v4 + 6)), (6, .int x68), (5, .int x62), (0, .ref b), (1, .ref v1), (2, .ref v2), (3, .ref v3)]) dL_law_1438 rfl rfl (by decide) rfl ?_
        refine v_goto (tgt := 23) dL_law_1441 (by decide) ?_
        exact v_sub (vs_c rfl (vs_c rfl (vs_c rfl (vs_c rfl (vs_c rfl vs_n))))) (v_wide (by omega) (by omega) (hkk v1 v2 v3 (v4 + 6) f69 (c + 1) (z + 6) h))
      · replace h := in_ c75 h
        refine v_iconst (v := 0) dL_law_427 (by decide) ?_
        obtain rfl := Option.some.inj h
        exact v_zretW dL_law_428 rfl (Or.inl rfl) rfl (by omega) (by omega)
  · replace h := in_ c77 h
    refine v_iconst (v := 0) dL_law_410 (by decide) ?_
    obtain rfl := Option.some.inj h
    exact v_zretW dL_law_411 rfl (Or.inl rfl) rfl (by omega) (by omega)

def DL_c4 (N L : Nat) (xs : Nat → Int32) (kk : Nat → Nat → Nat → Int32 → HF → Nat → Nat → Option (Int32 × HF)) (v1 : Nat) (v2 : Nat) (v3 : Nat) (v4 : Int32) (f : HF) (c z : Nat) : Option (Int32 × HF) :=
  (xsI L xs (v4 + (1 : Int32))).bind fun x79 =>
  (xsI L xs (v4 + (2 : Int32))).bind fun x80 =>
  (xsI L xs (v4 + (3 : Int32))).bind fun x81 =>
  (xsI L xs (v4 + (4 : Int32))).bind fun x82 =>
  (xsI L xs (v4 + (5 : Int32))).bind fun x83 =>
  bW (DL_bounds N v1 x79 ((((x80).toInt64) <<< ((32 : Int32).toInt64 &&& 63)) ||| (((x81).toInt64) &&& (4294967295 : Int64))) ((((x82).toInt64) <<< ((32 : Int32).toInt64 &&& 63)) ||| (((x83).toInt64) &&& (4294967295 : Int64))) f) fun x84 f85 =>
  (xsI L xs (v4 + (1 : Int32))).bind fun x87 =>
  (xsI L xs (v4 + (2 : Int32))).bind fun x88 =>
  (xsI L xs (v4 + (3 : Int32))).bind fun x89 =>
  (xsI L xs (v4 + (4 : Int32))).bind fun x90 =>
  (xsI L xs (v4 + (5 : Int32))).bind fun x91 =>
  bW (DX10_bounds N v2 x87 ((((x88).toInt64) <<< ((32 : Int32).toInt64 &&& 63)) ||| (((x89).toInt64) &&& (4294967295 : Int64))) ((((x90).toInt64) <<< ((32 : Int32).toInt64 &&& 63)) ||| (((x91).toInt64) &&& (4294967295 : Int64))) f85) fun x92 f93 =>
  (DX10_thrown N v2 f93).bind fun x95 =>
  if x95 = x84 then
    kk v1 v2 v3 (v4 + 6) f93 (c + 1) (z + 6)
  else
    some ((0 : Int32), f93)

set_option maxRecDepth 20000 in
theorem tL_c4 {l : Launch} {g : GT} (N b L : Nat) (xs : Nat → Int32) (kk : Nat → Nat → Nat → Int32 → HF → Nat → Nat → Option (Int32 × HF)) {r : Int32 × HF} (hkk : ∀ (w1 : Nat) (w2 : Nat) (w3 : Nat) (w4 : Int32) (f : HF) (c z : Nat), kk w1 w2 w3 w4 f c z = some r → V l g (Scr g b L xs) (RL, cL_law, 7, (some .boolean), [], "law") 16 (.inl (some (.int r.1)), r.2, none, 600384, 7289834) 23 [(0, .ref b), (1, .ref w1), (2, .ref w2), (3, .ref w3), (4, .int w4)] [] f none c z) (v1 : Nat) (v2 : Nat) (v3 : Nat) (v4 : Int32) (f : HF) (c z : Nat) (hg : c + 1 ≤ 600384 ∧ z + 6 ≤ 7289834) (h : DL_c4 N L xs kk v1 v2 v3 v4 f c z = some r) : V l g (Scr g b L xs) (RL, cL_law, 7, (some .boolean), [], "law") 16 (.inl (some (.int r.1)), r.2, none, 600384, 7289834) 432 [(0, .ref b), (1, .ref v1), (2, .ref v2), (3, .ref v3), (4, .int v4)] [] f none c z := by
  unfold DL_c4 at h
  refine v_aload_n dL_law_432 rfl rfl ?_
  refine v_aload_n dL_law_433 rfl rfl ?_
  refine v_iload dL_law_434 rfl ?_
  refine v_iconst (v := 1) dL_law_436 (by decide) ?_
  refine v_iadd dL_law_437 ?_
  obtain ⟨x79, hx79, h⟩ := ob_some h
  refine v_sld dL_law_438 hx79 ?_
  refine v_aload_n dL_law_439 rfl rfl ?_
  refine v_iload dL_law_440 rfl ?_
  refine v_iconst (v := 2) dL_law_442 (by decide) ?_
  refine v_iadd dL_law_443 ?_
  obtain ⟨x80, hx80, h⟩ := ob_some h
  refine v_sld dL_law_444 hx80 ?_
  refine v_i2l dL_law_445 ?_
  refine v_bipush (v := 32) dL_law_446 (by decide) ?_
  refine v_lshl dL_law_448 ?_
  refine v_aload_n dL_law_449 rfl rfl ?_
  refine v_iload dL_law_450 rfl ?_
  refine v_iconst (v := 3) dL_law_452 (by decide) ?_
  refine v_iadd dL_law_453 ?_
  obtain ⟨x81, hx81, h⟩ := ob_some h
  refine v_sld dL_law_454 hx81 ?_
  refine v_i2l dL_law_455 ?_
  refine v_ldc2 dL_law_456 kc_L_105 ?_
  refine v_land dL_law_459 ?_
  refine v_lor dL_law_460 ?_
  refine v_aload_n dL_law_461 rfl rfl ?_
  refine v_iload dL_law_462 rfl ?_
  refine v_iconst (v := 4) dL_law_464 (by decide) ?_
  refine v_iadd dL_law_465 ?_
  obtain ⟨x82, hx82, h⟩ := ob_some h
  refine v_sld dL_law_466 hx82 ?_
  refine v_i2l dL_law_467 ?_
  refine v_bipush (v := 32) dL_law_468 (by decide) ?_
  refine v_lshl dL_law_470 ?_
  refine v_aload_n dL_law_471 rfl rfl ?_
  refine v_iload dL_law_472 rfl ?_
  refine v_iconst (v := 5) dL_law_474 (by decide) ?_
  refine v_iadd dL_law_475 ?_
  obtain ⟨x83, hx83, h⟩ := ob_some h
  refine v_sld dL_law_476 hx83 ?_
  refine v_i2l dL_law_477 ?_
  refine v_ldc2 dL_law_478 kc_L_105 ?_
  refine v_land dL_law_481 ?_
  refine v_lor dL_law_482 ?_
  obtain ⟨x84, f85, hx86, h⟩ := bW_some h
  have ehx86 := tL_bounds (l := l) (g := g) (sz := none) N v1 x79 ((((x80).toInt64) <<< ((32 : Int32).toInt64 &&& 63)) ||| (((x81).toInt64) &&& (4294967295 : Int64))) ((((x82).toInt64) <<< ((32 : Int32).toInt64 &&& 63)) ||| (((x83).toInt64) &&& (4294967295 : Int64))) f hx86
  refine v_gSX dL_law_483 ml_L_107 ok_L_bounds ehx86 (by decide) rfl (rest := []) rfl (Nat.le_of_ble_eq_true rfl) ⟨by show _ ≤ 600384; omega, by show _ ≤ 7289834; omega⟩ ?_
  refine v_istore (ls1 := [(5, .int x84), (0, .ref b), (1, .ref v1), (2, .ref v2), (3, .ref v3), (4, .int v4)]) dL_law_486 (by decide) rfl ?_
  refine v_aload_n dL_law_488 rfl rfl ?_
  refine v_aload_n dL_law_489 rfl rfl ?_
  refine v_iload dL_law_490 rfl ?_
  refine v_iconst (v := 1) dL_law_492 (by decide) ?_
  refine v_iadd dL_law_493 ?_
  obtain ⟨x87, hx87, h⟩ := ob_some h
  refine v_sld dL_law_494 hx87 ?_
  refine v_aload_n dL_law_495 rfl rfl ?_
  refine v_iload dL_law_496 rfl ?_
  refine v_iconst (v := 2) dL_law_498 (by decide) ?_
  refine v_iadd dL_law_499 ?_
  obtain ⟨x88, hx88, h⟩ := ob_some h
  refine v_sld dL_law_500 hx88 ?_
  refine v_i2l dL_law_501 ?_
  refine v_bipush (v := 32) dL_law_502 (by decide) ?_
  refine v_lshl dL_law_504 ?_
  refine v_aload_n dL_law_505 rfl rfl ?_
  refine v_iload dL_law_506 rfl ?_
  refine v_iconst (v := 3) dL_law_508 (by decide) ?_
  refine v_iadd dL_law_509 ?_
  obtain ⟨x89, hx89, h⟩ := ob_some h
  refine v_sld dL_law_510 hx89 ?_
  refine v_i2l dL_law_511 ?_
  refine v_ldc2 dL_law_512 kc_L_105 ?_
  refine v_land dL_law_515 ?_
  refine v_lor dL_law_516 ?_
  refine v_aload_n dL_law_517 rfl rfl ?_
  refine v_iload dL_law_518 rfl ?_
  refine v_iconst (v := 4) dL_law_520 (by decide) ?_
  refine v_iadd dL_law_521 ?_
  obtain ⟨x90, hx90, h⟩ := ob_some h
  refine v_sld dL_law_522 hx90 ?_
  refine v_i2l dL_law_523 ?_
  refine v_bipush (v := 32) dL_law_524 (by decide) ?_
  refine v_lshl dL_law_526 ?_
  refine v_aload_n dL_law_527 rfl rfl ?_
  refine v_iload dL_law_528 rfl ?_
  refine v_iconst (v := 5) dL_law_530 (by decide) ?_
  refine v_iadd dL_law_531 ?_
  obtain ⟨x91, hx91, h⟩ := ob_some h
  refine v_sld dL_law_532 hx91 ?_
  refine v_i2l dL_law_533 ?_
  refine v_ldc2 dL_law_534 kc_L_105 ?_
  refine v_land dL_law_537 ?_
  refine v_lor dL_law_538 ?_
  obtain ⟨x92, f93, hx94, h⟩ := bW_some h
  have ehx94 := tX10_bounds (l := l) (g := g) (sz := none) N v2 x87 ((((x88).toInt64) <<< ((32 : Int32).toInt64 &&& 63)) ||| (((x89).toInt64) &&& (4294967295 : Int64))) ((((x90).toInt64) <<< ((32 : Int32).toInt64 &&& 63)) ||| (((x91).toInt64) &&& (4294967295 : Int64))) f85 hx94
  refine v_gVU dL_law_539 ml_L_110 ok_X10_bounds ehx94 (kX10_bounds N v2 x87 ((((x88).toInt64) <<< ((32 : Int32).toInt64 &&& 63)) ||| (((x89).toInt64) &&& (4294967295 : Int64))) ((((x90).toInt64) <<< ((32 : Int32).toInt64 &&& 63)) ||| (((x91).toInt64) &&& (4294967295 : Int64))) f85 hx94) rfl (by decide) rfl (rest := []) rfl (Nat.le_of_ble_eq_true rfl) ⟨by show _ ≤ 600384; omega, by show _ ≤ 7289834; omega⟩ ?_
  refine v_aload_n dL_law_542 rfl rfl ?_
  obtain ⟨x95, hx97, h⟩ := ob_some h
  have ehx97 := tX10_thrown (l := l) (g := g) (sz := none) N v2 f93 hx97
  refine v_gVI dL_law_543 ml_L_91 ok_X10_thrown ehx97 (kX10_thrown N v2 f93 hx97) rfl (by decide) rfl (rest := []) rfl (Nat.le_of_ble_eq_true rfl) ⟨by show _ ≤ 600384; omega, by show _ ≤ 7289834; omega⟩ ?_
  refine v_iload dL_law_546 rfl ?_
  refine v_icmp_eq (tgt := 553) dL_law_548 (by decide) (fun c98 => ?_) (fun c98 => ?_)
  · replace h := ip_ c98 h
    refine v_goto (tgt := 1438) dL_law_553 (by decide) ?_
    refine v_iinc (v := (v4 + 6)) (ls1 := [(4, .int (v4 + 6)), (5, .int x84), (0, .ref b), (1, .ref v1), (2, .ref v2), (3, .ref v3)]) dL_law_1438 rfl rfl (by decide) rfl ?_
    refine v_goto (tgt := 23) dL_law_1441 (by decide) ?_
    exact v_sub (vs_c rfl (vs_c rfl (vs_c rfl (vs_c rfl (vs_c rfl vs_n))))) (v_wide (by omega) (by omega) (hkk v1 v2 v3 (v4 + 6) f93 (c + 1) (z + 6) h))
  · replace h := in_ c98 h
    refine v_iconst (v := 0) dL_law_551 (by decide) ?_
    obtain rfl := Option.some.inj h
    exact v_zretW dL_law_552 rfl (Or.inl rfl) rfl (by omega) (by omega)

def DL_c5 (N L : Nat) (xs : Nat → Int32) (kk : Nat → Nat → Nat → Int32 → HF → Nat → Nat → Option (Int32 × HF)) (v1 : Nat) (v2 : Nat) (v3 : Nat) (v4 : Int32) (f : HF) (c z : Nat) : Option (Int32 × HF) :=
  (xsI L xs (v4 + (1 : Int32))).bind fun x100 =>
  (xsI L xs (v4 + (2 : Int32))).bind fun x101 =>
  (xsI L xs (v4 + (3 : Int32))).bind fun x102 =>
  (xsI L xs (v4 + (4 : Int32))).bind fun x103 =>
  bW (DL_formula N v1 x100 x101 x102 x103 v3 f) fun x104 f105 =>
  (xsI L xs (v4 + (1 : Int32))).bind fun x107 =>
  (xsI L xs (v4 + (2 : Int32))).bind fun x108 =>
  (xsI L xs (v4 + (3 : Int32))).bind fun x109 =>
  (xsI L xs (v4 + (4 : Int32))).bind fun x110 =>
  bW (DX10_formula N v2 x107 x108 x109 x110 f105) fun x111 f112 =>
  (DX10_thrown N v2 f112).bind fun x114 =>
  if x114 = x104 then
    if x104 = 0 then
      (aL f112 v3 (0 : Int32)).bind fun x117 =>
      if x117 = ((x111).toInt64) then
        kk v1 v2 v3 (v4 + 6) f112 (c + 1) (z + 6)
      else
        some ((0 : Int32), f112)
    else
      kk v1 v2 v3 (v4 + 6) f112 (c + 1) (z + 6)
  else
    some ((0 : Int32), f112)

set_option maxRecDepth 20000 in
theorem tL_c5 {l : Launch} {g : GT} (N b L : Nat) (xs : Nat → Int32) (kk : Nat → Nat → Nat → Int32 → HF → Nat → Nat → Option (Int32 × HF)) {r : Int32 × HF} (hkk : ∀ (w1 : Nat) (w2 : Nat) (w3 : Nat) (w4 : Int32) (f : HF) (c z : Nat), kk w1 w2 w3 w4 f c z = some r → V l g (Scr g b L xs) (RL, cL_law, 7, (some .boolean), [], "law") 16 (.inl (some (.int r.1)), r.2, none, 600384, 7289834) 23 [(0, .ref b), (1, .ref w1), (2, .ref w2), (3, .ref w3), (4, .int w4)] [] f none c z) (v1 : Nat) (v2 : Nat) (v3 : Nat) (v4 : Int32) (f : HF) (c z : Nat) (hg : c + 1 ≤ 600384 ∧ z + 6 ≤ 7289834) (h : DL_c5 N L xs kk v1 v2 v3 v4 f c z = some r) : V l g (Scr g b L xs) (RL, cL_law, 7, (some .boolean), [], "law") 16 (.inl (some (.int r.1)), r.2, none, 600384, 7289834) 556 [(0, .ref b), (1, .ref v1), (2, .ref v2), (3, .ref v3), (4, .int v4)] [] f none c z := by
  unfold DL_c5 at h
  refine v_aload_n dL_law_556 rfl rfl ?_
  refine v_aload_n dL_law_557 rfl rfl ?_
  refine v_iload dL_law_558 rfl ?_
  refine v_iconst (v := 1) dL_law_560 (by decide) ?_
  refine v_iadd dL_law_561 ?_
  obtain ⟨x100, hx100, h⟩ := ob_some h
  refine v_sld dL_law_562 hx100 ?_
  refine v_aload_n dL_law_563 rfl rfl ?_
  refine v_iload dL_law_564 rfl ?_
  refine v_iconst (v := 2) dL_law_566 (by decide) ?_
  refine v_iadd dL_law_567 ?_
  obtain ⟨x101, hx101, h⟩ := ob_some h
  refine v_sld dL_law_568 hx101 ?_
  refine v_aload_n dL_law_569 rfl rfl ?_
  refine v_iload dL_law_570 rfl ?_
  refine v_iconst (v := 3) dL_law_572 (by decide) ?_
  refine v_iadd dL_law_573 ?_
  obtain ⟨x102, hx102, h⟩ := ob_some h
  refine v_sld dL_law_574 hx102 ?_
  refine v_aload_n dL_law_575 rfl rfl ?_
  refine v_iload dL_law_576 rfl ?_
  refine v_iconst (v := 4) dL_law_578 (by decide) ?_
  refine v_iadd dL_law_579 ?_
  obtain ⟨x103, hx103, h⟩ := ob_some h
  refine v_sld dL_law_580 hx103 ?_
  refine v_aload_n dL_law_581 rfl rfl ?_
  obtain ⟨x104, f105, hx106, h⟩ := bW_some h
  have ehx106 := tL_formula (l := l) (g := g) (sz := none) N v1 x100 x101 x102 x103 v3 f hx106
  refine v_gSX dL_law_582 ml_L_111 ok_L_formula ehx106 (by decide) rfl (rest := []) rfl (Nat.le_of_ble_eq_true rfl) ⟨by show _ ≤ 600384; omega, by show _ ≤ 7289834; omega⟩ ?_
  refine v_istore (ls1 := [(5, .int x104), (0, .ref b), (1, .ref v1), (2, .ref v2), (3, .ref v3), (4, .int v4)]) dL_law_585 (by decide) rfl ?_
  refine v_aload_n dL_law_587 rfl rfl ?_
  refine v_aload_n dL_law_588 rfl rfl ?_
  refine v_iload dL_law_589 rfl ?_
  refine v_iconst (v := 1) dL_law_591 (by decide) ?_
  refine v_iadd dL_law_592 ?_
  obtain ⟨x107, hx107, h⟩ := ob_some h
  refine v_sld dL_law_593 hx107 ?_
  refine v_aload_n dL_law_594 rfl rfl ?_
  refine v_iload dL_law_595 rfl ?_
  refine v_iconst (v := 2) dL_law_597 (by decide) ?_
  refine v_iadd dL_law_598 ?_
  obtain ⟨x108, hx108, h⟩ := ob_some h
  refine v_sld dL_law_599 hx108 ?_
  refine v_aload_n dL_law_600 rfl rfl ?_
  refine v_iload dL_law_601 rfl ?_
  refine v_iconst (v := 3) dL_law_603 (by decide) ?_
  refine v_iadd dL_law_604 ?_
  obtain ⟨x109, hx109, h⟩ := ob_some h
  refine v_sld dL_law_605 hx109 ?_
  refine v_aload_n dL_law_606 rfl rfl ?_
  refine v_iload dL_law_607 rfl ?_
  refine v_iconst (v := 4) dL_law_609 (by decide) ?_
  refine v_iadd dL_law_610 ?_
  obtain ⟨x110, hx110, h⟩ := ob_some h
  refine v_sld dL_law_611 hx110 ?_
  obtain ⟨x111, f112, hx113, h⟩ := bW_some h
  have ehx113 := tX10_formula (l := l) (g := g) (sz := none) N v2 x107 x108 x109 x110 f105 hx113
  refine v_gVI dL_law_612 ml_L_114 ok_X10_formula ehx113 (kX10_formula N v2 x107 x108 x109 x110 f105 hx113) rfl (by decide) rfl (rest := []) rfl (Nat.le_of_ble_eq_true rfl) ⟨by show _ ≤ 600384; omega, by show _ ≤ 7289834; omega⟩ ?_
  refine v_istore (ls1 := [(6, .int x111), (5, .int x104), (0, .ref b), (1, .ref v1), (2, .ref v2), (3, .ref v3), (4, .int v4)]) dL_law_615 (by decide) rfl ?_
  refine v_aload_n dL_law_617 rfl rfl ?_
  obtain ⟨x114, hx116, h⟩ := ob_some h
  have ehx116 := tX10_thrown (l := l) (g := g) (sz := none) N v2 f112 hx116
  refine v_gVI dL_law_618 ml_L_91 ok_X10_thrown ehx116 (kX10_thrown N v2 f112 hx116) rfl (by decide) rfl (rest := []) rfl (Nat.le_of_ble_eq_true rfl) ⟨by show _ ≤ 600384; omega, by show _ ≤ 7289834; omega⟩ ?_
  refine v_iload dL_law_621 rfl ?_
  refine v_icmp_eq (tgt := 628) dL_law_623 (by decide) (fun c120 => ?_) (fun c120 => ?_)
  · replace h := ip_ c120 h
    refine v_iload dL_law_628 rfl ?_
    refine v_if_ne (tgt := 645) dL_law_630 (by decide) (fun c119 => ?_) (fun c119 => ?_)
    · replace h := in_ c119 h
      refine v_goto (tgt := 1438) dL_law_645 (by decide) ?_
      refine v_iinc (v := (v4 + 6)) (ls1 := [(4, .int (v4 + 6)), (6, .int x111), (5, .int x104), (0, .ref b), (1, .ref v1), (2, .ref v2), (3, .ref v3)]) dL_law_1438 rfl rfl (by decide) rfl ?_
      refine v_goto (tgt := 23) dL_law_1441 (by decide) ?_
      exact v_sub (vs_c rfl (vs_c rfl (vs_c rfl (vs_c rfl (vs_c rfl vs_n))))) (v_wide (by omega) (by omega) (hkk v1 v2 v3 (v4 + 6) f112 (c + 1) (z + 6) h))
    · replace h := ip_ c119 h
      refine v_aload_n dL_law_633 rfl rfl ?_
      refine v_iconst (v := 0) dL_law_634 (by decide) ?_
      obtain ⟨x117, hx117, h⟩ := ob_some h
      refine v_lald dL_law_635 hx117 ?_
      refine v_iload dL_law_636 rfl ?_
      refine v_i2l dL_law_638 ?_
      refine v_lcmp_eq (tgt := 645) dL_law_639 dL_law_640 (by decide) (fun c118 => ?_) (fun c118 => ?_)
      · replace h := ip_ c118 h
        refine v_goto (tgt := 1438) dL_law_645 (by decide) ?_
        refine v_iinc (v := (v4 + 6)) (ls1 := [(4, .int (v4 + 6)), (6, .int x111), (5, .int x104), (0, .ref b), (1, .ref v1), (2, .ref v2), (3, .ref v3)]) dL_law_1438 rfl rfl (by decide) rfl ?_
        refine v_goto (tgt := 23) dL_law_1441 (by decide) ?_
        exact v_sub (vs_c rfl (vs_c rfl (vs_c rfl (vs_c rfl (vs_c rfl vs_n))))) (v_wide (by omega) (by omega) (hkk v1 v2 v3 (v4 + 6) f112 (c + 1) (z + 6) h))
      · replace h := in_ c118 h
        refine v_iconst (v := 0) dL_law_643 (by decide) ?_
        obtain rfl := Option.some.inj h
        exact v_zretW dL_law_644 rfl (Or.inl rfl) rfl (by omega) (by omega)
  · replace h := in_ c120 h
    refine v_iconst (v := 0) dL_law_626 (by decide) ?_
    obtain rfl := Option.some.inj h
    exact v_zretW dL_law_627 rfl (Or.inl rfl) rfl (by omega) (by omega)

def DL_c6 (N L : Nat) (xs : Nat → Int32) (kk : Nat → Nat → Nat → Int32 → HF → Nat → Nat → Option (Int32 × HF)) (v1 : Nat) (v2 : Nat) (v3 : Nat) (v4 : Int32) (f : HF) (c z : Nat) : Option (Int32 × HF) :=
  bN (DX9_calculate N v1 f) fun x122 f123 =>
  bW (DX10_calculate N v2 f123) fun x125 f126 =>
  if x122 = x125 then
    kk v1 v2 v3 (v4 + 6) f126 (c + 1) (z + 6)
  else
    some ((0 : Int32), f126)

set_option maxRecDepth 20000 in
theorem tL_c6 {l : Launch} {g : GT} (N b L : Nat) (xs : Nat → Int32) (kk : Nat → Nat → Nat → Int32 → HF → Nat → Nat → Option (Int32 × HF)) {r : Int32 × HF} (hkk : ∀ (w1 : Nat) (w2 : Nat) (w3 : Nat) (w4 : Int32) (f : HF) (c z : Nat), kk w1 w2 w3 w4 f c z = some r → V l g (Scr g b L xs) (RL, cL_law, 7, (some .boolean), [], "law") 16 (.inl (some (.int r.1)), r.2, none, 600384, 7289834) 23 [(0, .ref b), (1, .ref w1), (2, .ref w2), (3, .ref w3), (4, .int w4)] [] f none c z) (v1 : Nat) (v2 : Nat) (v3 : Nat) (v4 : Int32) (f : HF) (c z : Nat) (hg : c + 1 ≤ 600384 ∧ z + 6 ≤ 7289834) (h : DL_c6 N L xs kk v1 v2 v3 v4 f c z = some r) : V l g (Scr g b L xs) (RL, cL_law, 7, (some .boolean), [], "law") 16 (.inl (some (.int r.1)), r.2, none, 600384, 7289834) 648 [(0, .ref b), (1, .ref v1), (2, .ref v2), (3, .ref v3), (4, .int v4)] [] f none c z := by
  unfold DL_c6 at h
  refine v_aload_n dL_law_648 rfl rfl ?_
  obtain ⟨x122, f123, hx124, h⟩ := bN_some h
  have ehx124 := tX9_calculate (l := l) (g := g) (sz := none) N v1 f hx124
  refine v_gVI dL_law_649 ml_L_115 ok_X9_calculate ehx124 (kX9_calculate N v1 f hx124) rfl (by decide) rfl (rest := []) rfl (Nat.le_of_ble_eq_true rfl) ⟨by show _ ≤ 600384; omega, by show _ ≤ 7289834; omega⟩ ?_
  refine v_aload_n dL_law_652 rfl rfl ?_
  obtain ⟨x125, f126, hx127, h⟩ := bW_some h
  have ehx127 := tX10_calculate (l := l) (g := g) (sz := none) N v2 f123 hx127
  refine v_gVI dL_law_653 ml_L_118 ok_X10_calculate ehx127 (kX10_calculate N v2 f123 hx127) rfl (by decide) rfl (rest := [.int x122]) rfl (Nat.le_of_ble_eq_true rfl) ⟨by show _ ≤ 600384; omega, by show _ ≤ 7289834; omega⟩ ?_
  refine v_icmp_eq (tgt := 1438) dL_law_656 (by decide) (fun c128 => ?_) (fun c128 => ?_)
  · replace h := ip_ c128 h
    refine v_iinc (v := (v4 + 6)) (ls1 := [(4, .int (v4 + 6)), (0, .ref b), (1, .ref v1), (2, .ref v2), (3, .ref v3)]) dL_law_1438 rfl rfl (by decide) rfl ?_
    refine v_goto (tgt := 23) dL_law_1441 (by decide) ?_
    exact v_sub (vs_c rfl (vs_c rfl (vs_c rfl (vs_c rfl (vs_c rfl vs_n))))) (v_wide (by omega) (by omega) (hkk v1 v2 v3 (v4 + 6) f126 (c + 1) (z + 6) h))
  · replace h := in_ c128 h
    refine v_iconst (v := 0) dL_law_659 (by decide) ?_
    obtain rfl := Option.some.inj h
    exact v_zretW dL_law_660 rfl (Or.inl rfl) rfl (by omega) (by omega)

def DL_c7 (N L : Nat) (xs : Nat → Int32) (kk : Nat → Nat → Nat → Int32 → HF → Nat → Nat → Option (Int32 × HF)) (v1 : Nat) (v2 : Nat) (v3 : Nat) (v4 : Int32) (f : HF) (c z : Nat) : Option (Int32 × HF) :=
  (xsI L xs (v4 + (1 : Int32))).bind fun x130 =>
  bW (DL_failed N v1 x130 v3 f) fun x131 f132 =>
  (xsI L xs (v4 + (1 : Int32))).bind fun x134 =>
  bW (DX10_failed N v2 x134 f132) fun x135 f136 =>
  (DX10_thrown N v2 f136).bind fun x138 =>
  if x138 = x131 then
    if x131 = 0 then
      (aL f136 v3 (0 : Int32)).bind fun x141 =>
      if x141 = ((x135).toInt64) then
        kk v1 v2 v3 (v4 + 6) f136 (c + 1) (z + 6)
      else
        some ((0 : Int32), f136)
    else
      kk v1 v2 v3 (v4 + 6) f136 (c + 1) (z + 6)
  else
    some ((0 : Int32), f136)

set_option maxRecDepth 20000 in
theorem tL_c7 {l : Launch} {g : GT} (N b L : Nat) (xs : Nat → Int32) (kk : Nat → Nat → Nat → Int32 → HF → Nat → Nat → Option (Int32 × HF)) {r : Int32 × HF} (hkk : ∀ (w1 : Nat) (w2 : Nat) (w3 : Nat) (w4 : Int32) (f : HF) (c z : Nat), kk w1 w2 w3 w4 f c z = some r → V l g (Scr g b L xs) (RL, cL_law, 7, (some .boolean), [], "law") 16 (.inl (some (.int r.1)), r.2, none, 600384, 7289834) 23 [(0, .ref b), (1, .ref w1), (2, .ref w2), (3, .ref w3), (4, .int w4)] [] f none c z) (v1 : Nat) (v2 : Nat) (v3 : Nat) (v4 : Int32) (f : HF) (c z : Nat) (hg : c + 1 ≤ 600384 ∧ z + 6 ≤ 7289834) (h : DL_c7 N L xs kk v1 v2 v3 v4 f c z = some r) : V l g (Scr g b L xs) (RL, cL_law, 7, (some .boolean), [], "law") 16 (.inl (some (.int r.1)), r.2, none, 600384, 7289834) 661 [(0, .ref b), (1, .ref v1), (2, .ref v2), (3, .ref v3), (4, .int v4)] [] f none c z := by
  unfold DL_c7 at h
  refine v_aload_n dL_law_661 rfl rfl ?_
  refine v_aload_n dL_law_662 rfl rfl ?_
  refine v_iload dL_law_663 rfl ?_
  refine v_iconst (v := 1) dL_law_665 (by decide) ?_
  refine v_iadd dL_law_666 ?_
  obtain ⟨x130, hx130, h⟩ := ob_some h
  refine v_sld dL_law_667 hx130 ?_
  refine v_aload_n dL_law_668 rfl rfl ?_
  obtain ⟨x131, f132, hx133, h⟩ := bW_some h
  have ehx133 := tL_failed (l := l) (g := g) (sz := none) N v1 x130 v3 f hx133
  refine v_gSX dL_law_669 ml_L_119 ok_L_failed ehx133 (by decide) rfl (rest := []) rfl (Nat.le_of_ble_eq_true rfl) ⟨by show _ ≤ 600384; omega, by show _ ≤ 7289834; omega⟩ ?_
  refine v_istore (ls1 := [(5, .int x131), (0, .ref b), (1, .ref v1), (2, .ref v2), (3, .ref v3), (4, .int v4)]) dL_law_672 (by decide) rfl ?_
  refine v_aload_n dL_law_674 rfl rfl ?_
  refine v_aload_n dL_law_675 rfl rfl ?_
  refine v_iload dL_law_676 rfl ?_
  refine v_iconst (v := 1) dL_law_678 (by decide) ?_
  refine v_iadd dL_law_679 ?_
  obtain ⟨x134, hx134, h⟩ := ob_some h
  refine v_sld dL_law_680 hx134 ?_
  obtain ⟨x135, f136, hx137, h⟩ := bW_some h
  have ehx137 := tX10_failed (l := l) (g := g) (sz := none) N v2 x134 f132 hx137
  refine v_gVI dL_law_681 ml_L_122 ok_X10_failed ehx137 (kX10_failed N v2 x134 f132 hx137) rfl (by decide) rfl (rest := []) rfl (Nat.le_of_ble_eq_true rfl) ⟨by show _ ≤ 600384; omega, by show _ ≤ 7289834; omega⟩ ?_
  refine v_istore (ls1 := [(6, .int x135), (5, .int x131), (0, .ref b), (1, .ref v1), (2, .ref v2), (3, .ref v3), (4, .int v4)]) dL_law_684 (by decide) rfl ?_
  refine v_aload_n dL_law_686 rfl rfl ?_
  obtain ⟨x138, hx140, h⟩ := ob_some h
  have ehx140 := tX10_thrown (l := l) (g := g) (sz := none) N v2 f136 hx140
  refine v_gVI dL_law_687 ml_L_91 ok_X10_thrown ehx140 (kX10_thrown N v2 f136 hx140) rfl (by decide) rfl (rest := []) rfl (Nat.le_of_ble_eq_true rfl) ⟨by show _ ≤ 600384; omega, by show _ ≤ 7289834; omega⟩ ?_
  refine v_iload dL_law_690 rfl ?_
  refine v_icmp_eq (tgt := 697) dL_law_692 (by decide) (fun c144 => ?_) (fun c144 => ?_)
  · replace h := ip_ c144 h
    refine v_iload dL_law_697 rfl ?_
    refine v_if_ne (tgt := 714) dL_law_699 (by decide) (fun c143 => ?_) (fun c143 => ?_)
    · replace h := in_ c143 h
      refine v_goto (tgt := 1438) dL_law_714 (by decide) ?_
      refine v_iinc (v := (v4 + 6)) (ls1 := [(4, .int (v4 + 6)), (6, .int x135), (5, .int x131), (0, .ref b), (1, .ref v1), (2, .ref v2), (3, .ref v3)]) dL_law_1438 rfl rfl (by decide) rfl ?_
      refine v_goto (tgt := 23) dL_law_1441 (by decide) ?_
      exact v_sub (vs_c rfl (vs_c rfl (vs_c rfl (vs_c rfl (vs_c rfl vs_n))))) (v_wide (by omega) (by omega) (hkk v1 v2 v3 (v4 + 6) f136 (c + 1) (z + 6) h))
    · replace h := ip_ c143 h
      refine v_aload_n dL_law_702 rfl rfl ?_
      refine v_iconst (v := 0) dL_law_703 (by decide) ?_
      obtain ⟨x141, hx141, h⟩ := ob_some h
      refine v_lald dL_law_704 hx141 ?_
      refine v_iload dL_law_705 rfl ?_
      refine v_i2l dL_law_707 ?_
      refine v_lcmp_eq (tgt := 714) dL_law_708 dL_law_709 (by decide) (fun c142 => ?_) (fun c142 => ?_)
      · replace h := ip_ c142 h
        refine v_goto (tgt := 1438) dL_law_714 (by decide) ?_
        refine v_iinc (v := (v4 + 6)) (ls1 := [(4, .int (v4 + 6)), (6, .int x135), (5, .int x131), (0, .ref b), (1, .ref v1), (2, .ref v2), (3, .ref v3)]) dL_law_1438 rfl rfl (by decide) rfl ?_
        refine v_goto (tgt := 23) dL_law_1441 (by decide) ?_
        exact v_sub (vs_c rfl (vs_c rfl (vs_c rfl (vs_c rfl (vs_c rfl vs_n))))) (v_wide (by omega) (by omega) (hkk v1 v2 v3 (v4 + 6) f136 (c + 1) (z + 6) h))
      · replace h := in_ c142 h
        refine v_iconst (v := 0) dL_law_712 (by decide) ?_
        obtain rfl := Option.some.inj h
        exact v_zretW dL_law_713 rfl (Or.inl rfl) rfl (by omega) (by omega)
  · replace h := in_ c144 h
    refine v_iconst (v := 0) dL_law_695 (by decide) ?_
    obtain rfl := Option.some.inj h
    exact v_zretW dL_law_696 rfl (Or.inl rfl) rfl (by omega) (by omega)

def DL_c8 (N L : Nat) (xs : Nat → Int32) (kk : Nat → Nat → Nat → Int32 → HF → Nat → Nat → Option (Int32 × HF)) (v1 : Nat) (v2 : Nat) (v3 : Nat) (v4 : Int32) (f : HF) (c z : Nat) : Option (Int32 × HF) :=
  (xsI L xs (v4 + (1 : Int32))).bind fun x146 =>
  (xsI L xs (v4 + (2 : Int32))).bind fun x147 =>
  if x147 = 0 then
    bW (DL_fails N v1 x146 (0 : Int32) v3 f) fun x148 f149 =>
    (xsI L xs (v4 + (1 : Int32))).bind fun x151 =>
    (xsI L xs (v4 + (2 : Int32))).bind fun x152 =>
    if x152 = 0 then
      bW (DX10_fails N v2 x151 (0 : Int32) f149) fun x153 f154 =>
      (DX10_thrown N v2 f154).bind fun x156 =>
      if x156 = x148 then
        if x148 = 0 then
          (aL f154 v3 (0 : Int32)).bind fun x159 =>
          if x159 = ((x153).toInt64) then
            kk v1 v2 v3 (v4 + 6) f154 (c + 1) (z + 6)
          else
            some ((0 : Int32), f154)
        else
          kk v1 v2 v3 (v4 + 6) f154 (c + 1) (z + 6)
      else
        some ((0 : Int32), f154)
    else
      bW (DX10_fails N v2 x151 (1 : Int32) f149) fun x163 f164 =>
      (DX10_thrown N v2 f164).bind fun x166 =>
      if x166 = x148 then
        if x148 = 0 then
          (aL f164 v3 (0 : Int32)).bind fun x169 =>
          if x169 = ((x163).toInt64) then
            kk v1 v2 v3 (v4 + 6) f164 (c + 1) (z + 6)
          else
            some ((0 : Int32), f164)
        else
          kk v1 v2 v3 (v4 + 6) f164 (c + 1) (z + 6)
      else
        some ((0 : Int32), f164)
  else
    bW (DL_fails N v1 x146 (1 : Int32) v3 f) fun x174 f175 =>
    (xsI L xs (v4 + (1 : Int32))).bind fun x177 =>
    (xsI L xs (v4 + (2 : Int32))).bind fun x178 =>
    if x178 = 0 then
      bW (DX10_fails N v2 x177 (0 : Int32) f175) fun x179 f180 =>
      (DX10_thrown N v2 f180).bind fun x182 =>
      if x182 = x174 then
        if x174 = 0 then
          (aL f180 v3 (0 : Int32)).bind fun x185 =>
          if x185 = ((x179).toInt64) then
            kk v1 v2 v3 (v4 + 6) f180 (c + 1) (z + 6)
          else
            some ((0 : Int32), f180)
        else
          kk v1 v2 v3 (v4 + 6) f180 (c + 1) (z + 6)
      else
        some ((0 : Int32), f180)
    else
      bW (DX10_fails N v2 x177 (1 : Int32) f175) fun x189 f190 =>
      (DX10_thrown N v2 f190).bind fun x192 =>
      if x192 = x174 then
        if x174 = 0 then
          (aL f190 v3 (0 : Int32)).bind fun x195 =>
          if x195 = ((x189).toInt64) then
            kk v1 v2 v3 (v4 + 6) f190 (c + 1) (z + 6)
          else
            some ((0 : Int32), f190)
        else
          kk v1 v2 v3 (v4 + 6) f190 (c + 1) (z + 6)
      else
        some ((0 : Int32), f190)

set_option maxRecDepth 20000 in
theorem tL_c8 {l : Launch} {g : GT} (N b L : Nat) (xs : Nat → Int32) (kk : Nat → Nat → Nat → Int32 → HF → Nat → Nat → Option (Int32 × HF)) {r : Int32 × HF} (hkk : ∀ (w1 : Nat) (w2 : Nat) (w3 : Nat) (w4 : Int32) (f : HF) (c z : Nat), kk w1 w2 w3 w4 f c z = some r → V l g (Scr g b L xs) (RL, cL_law, 7, (some .boolean), [], "law") 16 (.inl (some (.int r.1)), r.2, none, 600384, 7289834) 23 [(0, .ref b), (1, .ref w1), (2, .ref w2), (3, .ref w3), (4, .int w4)] [] f none c z) (v1 : Nat) (v2 : Nat) (v3 : Nat) (v4 : Int32) (f : HF) (c z : Nat) (hg : c + 1 ≤ 600384 ∧ z + 6 ≤ 7289834) (h : DL_c8 N L xs kk v1 v2 v3 v4 f c z = some r) : V l g (Scr g b L xs) (RL, cL_law, 7, (some .boolean), [], "law") 16 (.inl (some (.int r.1)), r.2, none, 600384, 7289834) 717 [(0, .ref b), (1, .ref v1), (2, .ref v2), (3, .ref v3), (4, .int v4)] [] f none c z := by
  unfold DL_c8 at h
  refine v_aload_n dL_law_717 rfl rfl ?_
  refine v_aload_n dL_law_718 rfl rfl ?_
  refine v_iload dL_law_719 rfl ?_
  refine v_iconst (v := 1) dL_law_721 (by decide) ?_
  refine v_iadd dL_law_722 ?_
  obtain ⟨x146, hx146, h⟩ := ob_some h
  refine v_sld dL_law_723 hx146 ?_
  refine v_aload_n dL_law_724 rfl rfl ?_
  refine v_iload dL_law_725 rfl ?_
  refine v_iconst (v := 2) dL_law_727 (by decide) ?_
  refine v_iadd dL_law_728 ?_
  obtain ⟨x147, hx147, h⟩ := ob_some h
  refine v_sld dL_law_729 hx147 ?_
  refine v_if_eq (tgt := 737) dL_law_730 (by decide) (fun c200 => ?_) (fun c200 => ?_)
  · replace h := ip_ c200 h
    refine v_iconst (v := 0) dL_law_737 (by decide) ?_
    refine v_aload_n dL_law_738 rfl rfl ?_
    obtain ⟨x148, f149, hx150, h⟩ := bW_some h
    have ehx150 := tL_fails (l := l) (g := g) (sz := none) N v1 x146 (0 : Int32) v3 f hx150
    refine v_gSX dL_law_739 ml_L_123 ok_L_fails ehx150 (by decide) rfl (rest := []) rfl (Nat.le_of_ble_eq_true rfl) ⟨by show _ ≤ 600384; omega, by show _ ≤ 7289834; omega⟩ ?_
    refine v_istore (ls1 := [(5, .int x148), (0, .ref b), (1, .ref v1), (2, .ref v2), (3, .ref v3), (4, .int v4)]) dL_law_742 (by decide) rfl ?_
    refine v_aload_n dL_law_744 rfl rfl ?_
    refine v_aload_n dL_law_745 rfl rfl ?_
    refine v_iload dL_law_746 rfl ?_
    refine v_iconst (v := 1) dL_law_748 (by decide) ?_
    refine v_iadd dL_law_749 ?_
    obtain ⟨x151, hx151, h⟩ := ob_some h
    refine v_sld dL_law_750 hx151 ?_
    refine v_aload_n dL_law_751 rfl rfl ?_
    refine v_iload dL_law_752 rfl ?_
    refine v_iconst (v := 2) dL_law_754 (by decide) ?_
    refine v_iadd dL_law_755 ?_
    obtain ⟨x152, hx152, h⟩ := ob_some h
    refine v_sld dL_law_756 hx152 ?_
    refine v_if_eq (tgt := 764) dL_law_757 (by decide) (fun c173 => ?_) (fun c173 => ?_)
    · replace h := ip_ c173 h
      refine v_iconst (v := 0) dL_law_764 (by decide) ?_
      obtain ⟨x153, f154, hx155, h⟩ := bW_some h
      have ehx155 := tX10_fails (l := l) (g := g) (sz := none) N v2 x151 (0 : Int32) f149 hx155
      refine v_gVI dL_law_765 ml_L_126 ok_X10_fails ehx155 (kX10_fails N v2 x151 (0 : Int32) f149 hx155) rfl (by decide) rfl (rest := []) rfl (Nat.le_of_ble_eq_true rfl) ⟨by show _ ≤ 600384; omega, by show _ ≤ 7289834; omega⟩ ?_
      refine v_istore (ls1 := [(6, .int x153), (5, .int x148), (0, .ref b), (1, .ref v1), (2, .ref v2), (3, .ref v3), (4, .int v4)]) dL_law_768 (by decide) rfl ?_
      refine v_aload_n dL_law_770 rfl rfl ?_
      obtain ⟨x156, hx158, h⟩ := ob_some h
      have ehx158 := tX10_thrown (l := l) (g := g) (sz := none) N v2 f154 hx158
      refine v_gVI dL_law_771 ml_L_91 ok_X10_thrown ehx158 (kX10_thrown N v2 f154 hx158) rfl (by decide) rfl (rest := []) rfl (Nat.le_of_ble_eq_true rfl) ⟨by show _ ≤ 600384; omega, by show _ ≤ 7289834; omega⟩ ?_
      refine v_iload dL_law_774 rfl ?_
      refine v_icmp_eq (tgt := 781) dL_law_776 (by decide) (fun c162 => ?_) (fun c162 => ?_)
      · replace h := ip_ c162 h
        refine v_iload dL_law_781 rfl ?_
        refine v_if_ne (tgt := 798) dL_law_783 (by decide) (fun c161 => ?_) (fun c161 => ?_)
        · replace h := in_ c161 h
          refine v_goto (tgt := 1438) dL_law_798 (by decide) ?_
          refine v_iinc (v := (v4 + 6)) (ls1 := [(4, .int (v4 + 6)), (6, .int x153), (5, .int x148), (0, .ref b), (1, .ref v1), (2, .ref v2), (3, .ref v3)]) dL_law_1438 rfl rfl (by decide) rfl ?_
          refine v_goto (tgt := 23) dL_law_1441 (by decide) ?_
          exact v_sub (vs_c rfl (vs_c rfl (vs_c rfl (vs_c rfl (vs_c rfl vs_n))))) (v_wide (by omega) (by omega) (hkk v1 v2 v3 (v4 + 6) f154 (c + 1) (z + 6) h))
        · replace h := ip_ c161 h
          refine v_aload_n dL_law_786 rfl rfl ?_
          refine v_iconst (v := 0) dL_law_787 (by decide) ?_
          obtain ⟨x159, hx159, h⟩ := ob_some h
          refine v_lald dL_law_788 hx159 ?_
          refine v_iload dL_law_789 rfl ?_
          refine v_i2l dL_law_791 ?_
          refine v_lcmp_eq (tgt := 798) dL_law_792 dL_law_793 (by decide) (fun c160 => ?_) (fun c160 => ?_)
          · replace h := ip_ c160 h
            refine v_goto (tgt := 1438) dL_law_798 (by decide) ?_
            refine v_iinc (v := (v4 + 6)) (ls1 := [(4, .int (v4 + 6)), (6, .int x153), (5, .int x148), (0, .ref b), (1, .ref v1), (2, .ref v2), (3, .ref v3)]) dL_law_1438 rfl rfl (by decide) rfl ?_
            refine v_goto (tgt := 23) dL_law_1441 (by decide) ?_
            exact v_sub (vs_c rfl (vs_c rfl (vs_c rfl (vs_c rfl (vs_c rfl vs_n))))) (v_wide (by omega) (by omega) (hkk v1 v2 v3 (v4 + 6) f154 (c + 1) (z + 6) h))
          · replace h := in_ c160 h
            refine v_iconst (v := 0) dL_law_796 (by decide) ?_
            obtain rfl := Option.some.inj h
            exact v_zretW dL_law_797 rfl (Or.inl rfl) rfl (by omega) (by omega)
      · replace h := in_ c162 h
        refine v_iconst (v := 0) dL_law_779 (by decide) ?_
        obtain rfl := Option.some.inj h
        exact v_zretW dL_law_780 rfl (Or.inl rfl) rfl (by omega) (by omega)
    · replace h := in_ c173 h
      refine v_iconst (v := 1) dL_law_760 (by decide) ?_
      refine v_goto (tgt := 765) dL_law_761 (by decide) ?_
      obtain ⟨x163, f164, hx165, h⟩ := bW_some h
      have ehx165 := tX10_fails (l := l) (g := g) (sz := none) N v2 x151 (1 : Int32) f149 hx165
      refine v_gVI dL_law_765 ml_L_126 ok_X10_fails ehx165 (kX10_fails N v2 x151 (1 : Int32) f149 hx165) rfl (by decide) rfl (rest := []) rfl (Nat.le_of_ble_eq_true rfl) ⟨by show _ ≤ 600384; omega, by show _ ≤ 7289834; omega⟩ ?_
      refine v_istore (ls1 := [(6, .int x163), (5, .int x148), (0, .ref b), (1, .ref v1), (2, .ref v2), (3, .ref v3), (4, .int v4)]) dL_law_768 (by decide) rfl ?_
      refine v_aload_n dL_law_770 rfl rfl ?_
      obtain ⟨x166, hx168, h⟩ := ob_some h
      have ehx168 := tX10_thrown (l := l) (g := g) (sz := none) N v2 f164 hx168
      refine v_gVI dL_law_771 ml_L_91 ok_X10_thrown ehx168 (kX10_thrown N v2 f164 hx168) rfl (by decide) rfl (rest := []) rfl (Nat.le_of_ble_eq_true rfl) ⟨by show _ ≤ 600384; omega, by show _ ≤ 7289834; omega⟩ ?_
      refine v_iload dL_law_774 rfl ?_
      refine v_icmp_eq (tgt := 781) dL_law_776 (by decide) (fun c172 => ?_) (fun c172 => ?_)
      · replace h := ip_ c172 h
        refine v_iload dL_law_781 rfl ?_
        refine v_if_ne (tgt := 798) dL_law_783 (by decide) (fun c171 => ?_) (fun c171 => ?_)
        · replace h := in_ c171 h
          refine v_goto (tgt := 1438) dL_law_798 (by decide) ?_
          refine v_iinc (v := (v4 + 6)) (ls1 := [(4, .int (v4 + 6)), (6, .int x163), (5, .int x148), (0, .ref b), (1, .ref v1), (2, .ref v2), (3, .ref v3)]) dL_law_1438 rfl rfl (by decide) rfl ?_
          refine v_goto (tgt := 23) dL_law_1441 (by decide) ?_
          exact v_sub (vs_c rfl (vs_c rfl (vs_c rfl (vs_c rfl (vs_c rfl vs_n))))) (v_wide (by omega) (by omega) (hkk v1 v2 v3 (v4 + 6) f164 (c + 1) (z + 6) h))
        · replace h := ip_ c171 h
          refine v_aload_n dL_law_786 rfl rfl ?_
          refine v_iconst (v := 0) dL_law_787 (by decide) ?_
          obtain ⟨x169, hx169, h⟩ := ob_some h
          refine v_lald dL_law_788 hx169 ?_
          refine v_iload dL_law_789 rfl ?_
          refine v_i2l dL_law_791 ?_
          refine v_lcmp_eq (tgt := 798) dL_law_792 dL_law_793 (by decide) (fun c170 => ?_) (fun c170 => ?_)
          · replace h := ip_ c170 h
            refine v_goto (tgt := 1438) dL_law_798 (by decide) ?_
            refine v_iinc (v := (v4 + 6)) (ls1 := [(4, .int (v4 + 6)), (6, .int x163), (5, .int x148), (0, .ref b), (1, .ref v1), (2, .ref v2), (3, .ref v3)]) dL_law_1438 rfl rfl (by decide) rfl ?_
            refine v_goto (tgt := 23) dL_law_1441 (by decide) ?_
            exact v_sub (vs_c rfl (vs_c rfl (vs_c rfl (vs_c rfl (vs_c rfl vs_n))))) (v_wide (by omega) (by omega) (hkk v1 v2 v3 (v4 + 6) f164 (c + 1) (z + 6) h))
          · replace h := in_ c170 h
            refine v_iconst (v := 0) dL_law_796 (by decide) ?_
            obtain rfl := Option.some.inj h
            exact v_zretW dL_law_797 rfl (Or.inl rfl) rfl (by omega) (by omega)
      · replace h := in_ c172 h
        refine v_iconst (v := 0) dL_law_779 (by decide) ?_
        obtain rfl := Option.some.inj h
        exact v_zretW dL_law_780 rfl (Or.inl rfl) rfl (by omega) (by omega)
  · replace h := in_ c200 h
    refine v_iconst (v := 1) dL_law_733 (by decide) ?_
    refine v_goto (tgt := 738) dL_law_734 (by decide) ?_
    refine v_aload_n dL_law_738 rfl rfl ?_
    obtain ⟨x174, f175, hx176, h⟩ := bW_some h
    have ehx176 := tL_fails (l := l) (g := g) (sz := none) N v1 x146 (1 : Int32) v3 f hx176
    refine v_gSX dL_law_739 ml_L_123 ok_L_fails ehx176 (by decide) rfl (rest := []) rfl (Nat.le_of_ble_eq_true rfl) ⟨by show _ ≤ 600384; omega, by show _ ≤ 7289834; omega⟩ ?_
    refine v_istore (ls1 := [(5, .int x174), (0, .ref b), (1, .ref v1), (2, .ref v2), (3, .ref v3), (4, .int v4)]) dL_law_742 (by decide) rfl ?_
    refine v_aload_n dL_law_744 rfl rfl ?_
    refine v_aload_n dL_law_745 rfl rfl ?_
    refine v_iload dL_law_746 rfl ?_
    refine v_iconst (v := 1) dL_law_748 (by decide) ?_
    refine v_iadd dL_law_749 ?_
    obtain ⟨x177, hx177, h⟩ := ob_some h
    refine v_sld dL_law_750 hx177 ?_
    refine v_aload_n dL_law_751 rfl rfl ?_
    refine v_iload dL_law_752 rfl ?_
    refine v_iconst (v := 2) dL_law_754 (by decide) ?_
    refine v_iadd dL_law_755 ?_
    obtain ⟨x178, hx178, h⟩ := ob_some h
    refine v_sld dL_law_756 hx178 ?_
    refine v_if_eq (tgt := 764) dL_law_757 (by decide) (fun c199 => ?_) (fun c199 => ?_)
    · replace h := ip_ c199 h
      refine v_iconst (v := 0) dL_law_764 (by decide) ?_
      obtain ⟨x179, f180, hx181, h⟩ := bW_some h
      have ehx181 := tX10_fails (l := l) (g := g) (sz := none) N v2 x177 (0 : Int32) f175 hx181
      refine v_gVI dL_law_765 ml_L_126 ok_X10_fails ehx181 (kX10_fails N v2 x177 (0 : Int32) f175 hx181) rfl (by decide) rfl (rest := []) rfl (Nat.le_of_ble_eq_true rfl) ⟨by show _ ≤ 600384; omega, by show _ ≤ 7289834; omega⟩ ?_
      refine v_istore (ls1 := [(6, .int x179), (5, .int x174), (0, .ref b), (1, .ref v1), (2, .ref v2), (3, .ref v3), (4, .int v4)]) dL_law_768 (by decide) rfl ?_
      refine v_aload_n dL_law_770 rfl rfl ?_
      obtain ⟨x182, hx184, h⟩ := ob_some h
      have ehx184 := tX10_thrown (l := l) (g := g) (sz := none) N v2 f180 hx184
      refine v_gVI dL_law_771 ml_L_91 ok_X10_thrown ehx184 (kX10_thrown N v2 f180 hx184) rfl (by decide) rfl (rest := []) rfl (Nat.le_of_ble_eq_true rfl) ⟨by show _ ≤ 600384; omega, by show _ ≤ 7289834; omega⟩ ?_
      refine v_iload dL_law_774 rfl ?_
      refine v_icmp_eq (tgt := 781) dL_law_776 (by decide) (fun c188 => ?_) (fun c188 => ?_)
      · replace h := ip_ c188 h
        refine v_iload dL_law_781 rfl ?_
        refine v_if_ne (tgt := 798) dL_law_783 (by decide) (fun c187 => ?_) (fun c187 => ?_)
        · replace h := in_ c187 h
          refine v_goto (tgt := 1438) dL_law_798 (by decide) ?_
          refine v_iinc (v := (v4 + 6)) (ls1 := [(4, .int (v4 + 6)), (6, .int x179), (5, .int x174), (0, .ref b), (1, .ref v1), (2, .ref v2), (3, .ref v3)]) dL_law_1438 rfl rfl (by decide) rfl ?_
          refine v_goto (tgt := 23) dL_law_1441 (by decide) ?_
          exact v_sub (vs_c rfl (vs_c rfl (vs_c rfl (vs_c rfl (vs_c rfl vs_n))))) (v_wide (by omega) (by omega) (hkk v1 v2 v3 (v4 + 6) f180 (c + 1) (z + 6) h))
        · replace h := ip_ c187 h
          refine v_aload_n dL_law_786 rfl rfl ?_
          refine v_iconst (v := 0) dL_law_787 (by decide) ?_
          obtain ⟨x185, hx185, h⟩ := ob_some h
          refine v_lald dL_law_788 hx185 ?_
          refine v_iload dL_law_789 rfl ?_
          refine v_i2l dL_law_791 ?_
          refine v_lcmp_eq (tgt := 798) dL_law_792 dL_law_793 (by decide) (fun c186 => ?_) (fun c186 => ?_)
          · replace h := ip_ c186 h
            refine v_goto (tgt := 1438) dL_law_798 (by decide) ?_
            refine v_iinc (v := (v4 + 6)) (ls1 := [(4, .int (v4 + 6)), (6, .int x179), (5, .int x174), (0, .ref b), (1, .ref v1), (2, .ref v2), (3, .ref v3)]) dL_law_1438 rfl rfl (by decide) rfl ?_
            refine v_goto (tgt := 23) dL_law_1441 (by decide) ?_
            exact v_sub (vs_c rfl (vs_c rfl (vs_c rfl (vs_c rfl (vs_c rfl vs_n))))) (v_wide (by omega) (by omega) (hkk v1 v2 v3 (v4 + 6) f180 (c + 1) (z + 6) h))
          · replace h := in_ c186 h
            refine v_iconst (v := 0) dL_law_796 (by decide) ?_
            obtain rfl := Option.some.inj h
            exact v_zretW dL_law_797 rfl (Or.inl rfl) rfl (by omega) (by omega)
      · replace h := in_ c188 h
        refine v_iconst (v := 0) dL_law_779 (by decide) ?_
        obtain rfl := Option.some.inj h
        exact v_zretW dL_law_780 rfl (Or.inl rfl) rfl (by omega) (by omega)
    · replace h := in_ c199 h
      refine v_iconst (v := 1) dL_law_760 (by decide) ?_
      refine v_goto (tgt := 765) dL_law_761 (by decide) ?_
      obtain ⟨x189, f190, hx191, h⟩ := bW_some h
      have ehx191 := tX10_fails (l := l) (g := g) (sz := none) N v2 x177 (1 : Int32) f175 hx191
      refine v_gVI dL_law_765 ml_L_126 ok_X10_fails ehx191 (kX10_fails N v2 x177 (1 : Int32) f175 hx191) rfl (by decide) rfl (rest := []) rfl (Nat.le_of_ble_eq_true rfl) ⟨by show _ ≤ 600384; omega, by show _ ≤ 7289834; omega⟩ ?_
      refine v_istore (ls1 := [(6, .int x189), (5, .int x174), (0, .ref b), (1, .ref v1), (2, .ref v2), (3, .ref v3), (4, .int v4)]) dL_law_768 (by decide) rfl ?_
      refine v_aload_n dL_law_770 rfl rfl ?_
      obtain ⟨x192, hx194, h⟩ := ob_some h
      have ehx194 := tX10_thrown (l := l) (g := g) (sz := none) N v2 f190 hx194
      refine v_gVI dL_law_771 ml_L_91 ok_X10_thrown ehx194 (kX10_thrown N v2 f190 hx194) rfl (by decide) rfl (rest := []) rfl (Nat.le_of_ble_eq_true rfl) ⟨by show _ ≤ 600384; omega, by show _ ≤ 7289834; omega⟩ ?_
      refine v_iload dL_law_774 rfl ?_
      refine v_icmp_eq (tgt := 781) dL_law_776 (by decide) (fun c198 => ?_) (fun c198 => ?_)
      · replace h := ip_ c198 h
        refine v_iload dL_law_781 rfl ?_
        refine v_if_ne (tgt := 798) dL_law_783 (by decide) (fun c197 => ?_) (fun c197 => ?_)
        · replace h := in_ c197 h
          refine v_goto (tgt := 1438) dL_law_798 (by decide) ?_
          refine v_iinc (v := (v4 + 6)) (ls1 := [(4, .int (v4 + 6)), (6, .int x189), (5, .int x174), (0, .ref b), (1, .ref v1), (2, .ref v2), (3, .ref v3)]) dL_law_1438 rfl rfl (by decide) rfl ?_
          refine v_goto (tgt := 23) dL_law_1441 (by decide) ?_
          exact v_sub (vs_c rfl (vs_c rfl (vs_c rfl (vs_c rfl (vs_c rfl vs_n))))) (v_wide (by omega) (by omega) (hkk v1 v2 v3 (v4 + 6) f190 (c + 1) (z + 6) h))
        · replace h := ip_ c197 h
          refine v_aload_n dL_law_786 rfl rfl ?_
          refine v_iconst (v := 0) dL_law_787 (by decide) ?_
          obtain ⟨x195, hx195, h⟩ := ob_some h
          refine v_lald dL_law_788 hx195 ?_
          refine v_iload dL_law_789 rfl ?_
          refine v_i2l dL_law_791 ?_
          refine v_lcmp_eq (tgt := 798) dL_law_792 dL_law_793 (by decide) (fun c196 => ?_) (fun c196 => ?_)
          · replace h := ip_ c196 h
            refine v_goto (tgt := 1438) dL_law_798 (by decide) ?_
            refine v_iinc (v := (v4 + 6)) (ls1 := [(4, .int (v4 + 6)), (6, .int x189), (5, .int x174), (0, .ref b), (1, .ref v1), (2, .ref v2), (3, .ref v3)]) dL_law_1438 rfl rfl (by decide) rfl ?_
            refine v_goto (tgt := 23) dL_law_1441 (by decide) ?_
            exact v_sub (vs_c rfl (vs_c rfl (vs_c rfl (vs_c rfl (vs_c rfl vs_n))))) (v_wide (by omega) (by omega) (hkk v1 v2 v3 (v4 + 6) f190 (c + 1) (z + 6) h))
          · replace h := in_ c196 h
            refine v_iconst (v := 0) dL_law_796 (by decide) ?_
            obtain rfl := Option.some.inj h
            exact v_zretW dL_law_797 rfl (Or.inl rfl) rfl (by omega) (by omega)
      · replace h := in_ c198 h
        refine v_iconst (v := 0) dL_law_779 (by decide) ?_
        obtain rfl := Option.some.inj h
        exact v_zretW dL_law_780 rfl (Or.inl rfl) rfl (by omega) (by omega)

def DL_c9 (N L : Nat) (xs : Nat → Int32) (kk : Nat → Nat → Nat → Int32 → HF → Nat → Nat → Option (Int32 × HF)) (v1 : Nat) (v2 : Nat) (v3 : Nat) (v4 : Int32) (f : HF) (c z : Nat) : Option (Int32 × HF) :=
  (xsI L xs (v4 + (1 : Int32))).bind fun x202 =>
  (xsI L xs (v4 + (2 : Int32))).bind fun x203 =>
  bW (DL_shown N v1 x202 x203 v3 f) fun x204 f205 =>
  (xsI L xs (v4 + (1 : Int32))).bind fun x207 =>
  (xsI L xs (v4 + (2 : Int32))).bind fun x208 =>
  bW (DX10_shown N v2 x207 x208 f205) fun x209 f210 =>
  (DX10_thrown N v2 f210).bind fun x212 =>
  if x212 = x204 then
    if x204 = 0 then
      (aL f210 v3 (0 : Int32)).bind fun x215 =>
      if x215 = ((x209).toInt64) then
        kk v1 v2 v3 (v4 + 6) f210 (c + 1) (z + 6)
      else
        some ((0 : Int32), f210)
    else
      kk v1 v2 v3 (v4 + 6) f210 (c + 1) (z + 6)
  else
    some ((0 : Int32), f210)

set_option maxRecDepth 20000 in
theorem tL_c9 {l : Launch} {g : GT} (N b L : Nat) (xs : Nat → Int32) (kk : Nat → Nat → Nat → Int32 → HF → Nat → Nat → Option (Int32 × HF)) {r : Int32 × HF} (hkk : ∀ (w1 : Nat) (w2 : Nat) (w3 : Nat) (w4 : Int32) (f : HF) (c z : Nat), kk w1 w2 w3 w4 f c z = some r → V l g (Scr g b L xs) (RL, cL_law, 7, (some .boolean), [], "law") 16 (.inl (some (.int r.1)), r.2, none, 600384, 7289834) 23 [(0, .ref b), (1, .ref w1), (2, .ref w2), (3, .ref w3), (4, .int w4)] [] f none c z) (v1 : Nat) (v2 : Nat) (v3 : Nat) (v4 : Int32) (f : HF) (c z : Nat) (hg : c + 1 ≤ 600384 ∧ z + 6 ≤ 7289834) (h : DL_c9 N L xs kk v1 v2 v3 v4 f c z = some r) : V l g (Scr g b L xs) (RL, cL_law, 7, (some .boolean), [], "law") 16 (.inl (some (.int r.1)), r.2, none, 600384, 7289834) 801 [(0, .ref b), (1, .ref v1), (2, .ref v2), (3, .ref v3), (4, .int v4)] [] f none c z := by
  unfold DL_c9 at h
  refine v_aload_n dL_law_801 rfl rfl ?_
  refine v_aload_n dL_law_802 rfl rfl ?_
  refine v_iload dL_law_803 rfl ?_
  refine v_iconst (v := 1) dL_law_805 (by decide) ?_
  refine v_iadd dL_law_806 ?_
  obtain ⟨x202, hx202, h⟩ := ob_some h
  refine v_sld dL_law_807 hx202 ?_
  refine v_aload_n dL_law_808 rfl rfl ?_
  refine v_iload dL_law_809 rfl ?_
  refine v_iconst (v := 2) dL_law_811 (by decide) ?_
  refine v_iadd dL_law_812 ?_
  obtain ⟨x203, hx203, h⟩ := ob_some h
  refine v_sld dL_law_813 hx203 ?_
  refine v_aload_n dL_law_814 rfl rfl ?_
  obtain ⟨x204, f205, hx206, h⟩ := bW_some h
  have ehx206 := tL_shown (l := l) (g := g) (sz := none) N v1 x202 x203 v3 f hx206
  refine v_gSX dL_law_815 ml_L_127 ok_L_shown ehx206 (by decide) rfl (rest := []) rfl (Nat.le_of_ble_eq_true rfl) ⟨by show _ ≤ 600384; omega, by show _ ≤ 7289834; omega⟩ ?_
  refine v_istore (ls1 := [(5, .int x204), (0, .ref b), (1, .ref v1), (2, .ref v2), (3, .ref v3), (4, .int v4)]) dL_law_818 (by decide) rfl ?_
  refine v_aload_n dL_law_820 rfl rfl ?_
  refine v_aload_n dL_law_821 rfl rfl ?_
  refine v_iload dL_law_822 rfl ?_
  refine v_iconst (v := 1) dL_law_824 (by decide) ?_
  refine v_iadd dL_law_825 ?_
  obtain ⟨x207, hx207, h⟩ := ob_some h
  refine v_sld dL_law_826 hx207 ?_
  refine v_aload_n dL_law_827 rfl rfl ?_
  refine v_iload dL_law_828 rfl ?_
  refine v_iconst (v := 2) dL_law_830 (by decide) ?_
  refine v_iadd dL_law_831 ?_
  obtain ⟨x208, hx208, h⟩ := ob_some h
  refine v_sld dL_law_832 hx208 ?_
  obtain ⟨x209, f210, hx211, h⟩ := bW_some h
  have ehx211 := tX10_shown (l := l) (g := g) (sz := none) N v2 x207 x208 f205 hx211
  refine v_gVI dL_law_833 ml_L_129 ok_X10_shown ehx211 (kX10_shown N v2 x207 x208 f205 hx211) rfl (by decide) rfl (rest := []) rfl (Nat.le_of_ble_eq_true rfl) ⟨by show _ ≤ 600384; omega, by show _ ≤ 7289834; omega⟩ ?_
  refine v_istore (ls1 := [(6, .int x209), (5, .int x204), (0, .ref b), (1, .ref v1), (2, .ref v2), (3, .ref v3), (4, .int v4)]) dL_law_836 (by decide) rfl ?_
  refine v_aload_n dL_law_838 rfl rfl ?_
  obtain ⟨x212, hx214, h⟩ := ob_some h
  have ehx214 := tX10_thrown (l := l) (g := g) (sz := none) N v2 f210 hx214
  refine v_gVI dL_law_839 ml_L_91 ok_X10_thrown ehx214 (kX10_thrown N v2 f210 hx214) rfl (by decide) rfl (rest := []) rfl (Nat.le_of_ble_eq_true rfl) ⟨by show _ ≤ 600384; omega, by show _ ≤ 7289834; omega⟩ ?_
  refine v_iload dL_law_842 rfl ?_
  refine v_icmp_eq (tgt := 849) dL_law_844 (by decide) (fun c218 => ?_) (fun c218 => ?_)
  · replace h := ip_ c218 h
    refine v_iload dL_law_849 rfl ?_
    refine v_if_ne (tgt := 866) dL_law_851 (by decide) (fun c217 => ?_) (fun c217 => ?_)
    · replace h := in_ c217 h
      refine v_goto (tgt := 1438) dL_law_866 (by decide) ?_
      refine v_iinc (v := (v4 + 6)) (ls1 := [(4, .int (v4 + 6)), (6, .int x209), (5, .int x204), (0, .ref b), (1, .ref v1), (2, .ref v2), (3, .ref v3)]) dL_law_1438 rfl rfl (by decide) rfl ?_
      refine v_goto (tgt := 23) dL_law_1441 (by decide) ?_
      exact v_sub (vs_c rfl (vs_c rfl (vs_c rfl (vs_c rfl (vs_c rfl vs_n))))) (v_wide (by omega) (by omega) (hkk v1 v2 v3 (v4 + 6) f210 (c + 1) (z + 6) h))
    · replace h := ip_ c217 h
      refine v_aload_n dL_law_854 rfl rfl ?_
      refine v_iconst (v := 0) dL_law_855 (by decide) ?_
      obtain ⟨x215, hx215, h⟩ := ob_some h
      refine v_lald dL_law_856 hx215 ?_
      refine v_iload dL_law_857 rfl ?_
      refine v_i2l dL_law_859 ?_
      refine v_lcmp_eq (tgt := 866) dL_law_860 dL_law_861 (by decide) (fun c216 => ?_) (fun c216 => ?_)
      · replace h := ip_ c216 h
        refine v_goto (tgt := 1438) dL_law_866 (by decide) ?_
        refine v_iinc (v := (v4 + 6)) (ls1 := [(4, .int (v4 + 6)), (6, .int x209), (5, .int x204), (0, .ref b), (1, .ref v1), (2, .ref v2), (3, .ref v3)]) dL_law_1438 rfl rfl (by decide) rfl ?_
        refine v_goto (tgt := 23) dL_law_1441 (by decide) ?_
        exact v_sub (vs_c rfl (vs_c rfl (vs_c rfl (vs_c rfl (vs_c rfl vs_n))))) (v_wide (by omega) (by omega) (hkk v1 v2 v3 (v4 + 6) f210 (c + 1) (z + 6) h))
      · replace h := in_ c216 h
        refine v_iconst (v := 0) dL_law_864 (by decide) ?_
        obtain rfl := Option.some.inj h
        exact v_zretW dL_law_865 rfl (Or.inl rfl) rfl (by omega) (by omega)
  · replace h := in_ c218 h
    refine v_iconst (v := 0) dL_law_847 (by decide) ?_
    obtain rfl := Option.some.inj h
    exact v_zretW dL_law_848 rfl (Or.inl rfl) rfl (by omega) (by omega)

def DL_c10 (N L : Nat) (xs : Nat → Int32) (kk : Nat → Nat → Nat → Int32 → HF → Nat → Nat → Option (Int32 × HF)) (v1 : Nat) (v2 : Nat) (v3 : Nat) (v4 : Int32) (f : HF) (c z : Nat) : Option (Int32 × HF) :=
  (xsI L xs (v4 + (1 : Int32))).bind fun x220 =>
  bW (DL_size N v1 x220 v3 f) fun x221 f222 =>
  (xsI L xs (v4 + (1 : Int32))).bind fun x224 =>
  bW (DX10_size N v2 x224 f222) fun x225 f226 =>
  (DX10_thrown N v2 f226).bind fun x228 =>
  if x228 = x221 then
    if x221 = 0 then
      (aL f226 v3 (0 : Int32)).bind fun x231 =>
      if x231 = ((x225).toInt64) then
        kk v1 v2 v3 (v4 + 6) f226 (c + 1) (z + 6)
      else
        some ((0 : Int32), f226)
    else
      kk v1 v2 v3 (v4 + 6) f226 (c + 1) (z + 6)
  else
    some ((0 : Int32), f226)

set_option maxRecDepth 20000 in
theorem tL_c10 {l : Launch} {g : GT} (N b L : Nat) (xs : Nat → Int32) (kk : Nat → Nat → Nat → Int32 → HF → Nat → Nat → Option (Int32 × HF)) {r : Int32 × HF} (hkk : ∀ (w1 : Nat) (w2 : Nat) (w3 : Nat) (w4 : Int32) (f : HF) (c z : Nat), kk w1 w2 w3 w4 f c z = some r → V l g (Scr g b L xs) (RL, cL_law, 7, (some .boolean), [], "law") 16 (.inl (some (.int r.1)), r.2, none, 600384, 7289834) 23 [(0, .ref b), (1, .ref w1), (2, .ref w2), (3, .ref w3), (4, .int w4)] [] f none c z) (v1 : Nat) (v2 : Nat) (v3 : Nat) (v4 : Int32) (f : HF) (c z : Nat) (hg : c + 1 ≤ 600384 ∧ z + 6 ≤ 7289834) (h : DL_c10 N L xs kk v1 v2 v3 v4 f c z = some r) : V l g (Scr g b L xs) (RL, cL_law, 7, (some .boolean), [], "law") 16 (.inl (some (.int r.1)), r.2, none, 600384, 7289834) 869 [(0, .ref b), (1, .ref v1), (2, .ref v2), (3, .ref v3), (4, .int v4)] [] f none c z := by
  unfold DL_c10 at h
  refine v_aload_n dL_law_869 rfl rfl ?_
  refine v_aload_n dL_law_870 rfl rfl ?_
  refine v_iload dL_law_871 rfl ?_
  refine v_iconst (v := 1) dL_law_873 (by decide) ?_
  refine v_iadd dL_law_874 ?_
  obtain ⟨x220, hx220, h⟩ := ob_some h
  refine v_sld dL_law_875 hx220 ?_
  refine v_aload_n dL_law_876 rfl rfl ?_
  obtain ⟨x221, f222, hx223, h⟩ := bW_some h
  have ehx223 := tL_size (l := l) (g := g) (sz := none) N v1 x220 v3 f hx223
  refine v_gSX dL_law_877 ml_L_130 ok_L_size ehx223 (by decide) rfl (rest := []) rfl (Nat.le_of_ble_eq_true rfl) ⟨by show _ ≤ 600384; omega, by show _ ≤ 7289834; omega⟩ ?_
  refine v_istore (ls1 := [(5, .int x221), (0, .ref b), (1, .ref v1), (2, .ref v2), (3, .ref v3), (4, .int v4)]) dL_law_880 (by decide) rfl ?_
  refine v_aload_n dL_law_882 rfl rfl ?_
  refine v_aload_n dL_law_883 rfl rfl ?_
  refine v_iload dL_law_884 rfl ?_
  refine v_iconst (v := 1) dL_law_886 (by decide) ?_
  refine v_iadd dL_law_887 ?_
  obtain ⟨x224, hx224, h⟩ := ob_some h
  refine v_sld dL_law_888 hx224 ?_
  obtain ⟨x225, f226, hx227, h⟩ := bW_some h
  have ehx227 := tX10_size (l := l) (g := g) (sz := none) N v2 x224 f222 hx227
  refine v_gVI dL_law_889 ml_L_132 ok_X10_size ehx227 (kX10_size N v2 x224 f222 hx227) rfl (by decide) rfl (rest := []) rfl (Nat.le_of_ble_eq_true rfl) ⟨by show _ ≤ 600384; omega, by show _ ≤ 7289834; omega⟩ ?_
  refine v_istore (ls1 := [(6, .int x225), (5, .int x221), (0, .ref b), (1, .ref v1), (2, .ref v2), (3, .ref v3), (4, .int v4)]) dL_law_892 (by decide) rfl ?_
  refine v_aload_n dL_law_894 rfl rfl ?_
  obtain ⟨x228, hx230, h⟩ := ob_some h
  have ehx230 := tX10_thrown (l := l) (g := g) (sz := none) N v2 f226 hx230
  refine v_gVI dL_law_895 ml_L_91 ok_X10_thrown ehx230 (kX10_thrown N v2 f226 hx230) rfl (by decide) rfl (rest := []) rfl (Nat.le_of_ble_eq_true rfl) ⟨by show _ ≤ 600384; omega, by show _ ≤ 7289834; omega⟩ ?_
  refine v_iload dL_law_898 rfl ?_
  refine v_icmp_eq (tgt := 905) dL_law_900 (by decide) (fun c234 => ?_) (fun c234 => ?_)
  · replace h := ip_ c234 h
    refine v_iload dL_law_905 rfl ?_
    refine v_if_ne (tgt := 922) dL_law_907 (by decide) (fun c233 => ?_) (fun c233 => ?_)
    · replace h := in_ c233 h
      refine v_goto (tgt := 1438) dL_law_922 (by decide) ?_
      refine v_iinc (v := (v4 + 6)) (ls1 := [(4, .int (v4 + 6)), (6, .int x225), (5, .int x221), (0, .ref b), (1, .ref v1), (2, .ref v2), (3, .ref v3)]) dL_law_1438 rfl rfl (by decide) rfl ?_
      refine v_goto (tgt := 23) dL_law_1441 (by decide) ?_
      exact v_sub (vs_c rfl (vs_c rfl (vs_c rfl (vs_c rfl (vs_c rfl vs_n))))) (v_wide (by omega) (by omega) (hkk v1 v2 v3 (v4 + 6) f226 (c + 1) (z + 6) h))
    · replace h := ip_ c233 h
      refine v_aload_n dL_law_910 rfl rfl ?_
      refine v_iconst (v := 0) dL_law_911 (by decide) ?_
      obtain ⟨x231, hx231, h⟩ := ob_some h
      refine v_lald dL_law_912 hx231 ?_
      refine v_iload dL_law_913 rfl ?_
      refine v_i2l dL_law_915 ?_
      refine v_lcmp_eq (tgt := 922) dL_law_916 dL_law_917 (by decide) (fun c232 => ?_) (fun c232 => ?_)
      · replace h := ip_ c232 h
        refine v_goto (tgt := 1438) dL_law_922 (by decide) ?_
        refine v_iinc (v := (v4 + 6)) (ls1 := [(4, .int (v4 + 6)), (6, .int x225), (5, .int x221), (0, .ref b), (1, .ref v1), (2, .ref v2), (3, .ref v3)]) dL_law_1438 rfl rfl (by decide) rfl ?_
        refine v_goto (tgt := 23) dL_law_1441 (by decide) ?_
        exact v_sub (vs_c rfl (vs_c rfl (vs_c rfl (vs_c rfl (vs_c rfl vs_n))))) (v_wide (by omega) (by omega) (hkk v1 v2 v3 (v4 + 6) f226 (c + 1) (z + 6) h))
      · replace h := in_ c232 h
        refine v_iconst (v := 0) dL_law_920 (by decide) ?_
        obtain rfl := Option.some.inj h
        exact v_zretW dL_law_921 rfl (Or.inl rfl) rfl (by omega) (by omega)
  · replace h := in_ c234 h
    refine v_iconst (v := 0) dL_law_903 (by decide) ?_
    obtain rfl := Option.some.inj h
    exact v_zretW dL_law_904 rfl (Or.inl rfl) rfl (by omega) (by omega)

def DL_c11 (N L : Nat) (xs : Nat → Int32) (kk : Nat → Nat → Nat → Int32 → HF → Nat → Nat → Option (Int32 × HF)) (v1 : Nat) (v2 : Nat) (v3 : Nat) (v4 : Int32) (f : HF) (c z : Nat) : Option (Int32 × HF) :=
  (xsI L xs (v4 + (1 : Int32))).bind fun x236 =>
  bW (DL_validate N v1 x236 v3 f) fun x237 f238 =>
  (xsI L xs (v4 + (1 : Int32))).bind fun x240 =>
  bW (DX10_validate N v2 x240 f238) fun x241 f242 =>
  (DX10_thrown N v2 f242).bind fun x244 =>
  if x244 = x237 then
    if x237 = 0 then
      (aL f242 v3 (0 : Int32)).bind fun x247 =>
      if x247 = ((x241).toInt64) then
        kk v1 v2 v3 (v4 + 6) f242 (c + 1) (z + 6)
      else
        some ((0 : Int32), f242)
    else
      kk v1 v2 v3 (v4 + 6) f242 (c + 1) (z + 6)
  else
    some ((0 : Int32), f242)

set_option maxRecDepth 20000 in
theorem tL_c11 {l : Launch} {g : GT} (N b L : Nat) (xs : Nat → Int32) (kk : Nat → Nat → Nat → Int32 → HF → Nat → Nat → Option (Int32 × HF)) {r : Int32 × HF} (hkk : ∀ (w1 : Nat) (w2 : Nat) (w3 : Nat) (w4 : Int32) (f : HF) (c z : Nat), kk w1 w2 w3 w4 f c z = some r → V l g (Scr g b L xs) (RL, cL_law, 7, (some .boolean), [], "law") 16 (.inl (some (.int r.1)), r.2, none, 600384, 7289834) 23 [(0, .ref b), (1, .ref w1), (2, .ref w2), (3, .ref w3), (4, .int w4)] [] f none c z) (v1 : Nat) (v2 : Nat) (v3 : Nat) (v4 : Int32) (f : HF) (c z : Nat) (hg : c + 1 ≤ 600384 ∧ z + 6 ≤ 7289834) (h : DL_c11 N L xs kk v1 v2 v3 v4 f c z = some r) : V l g (Scr g b L xs) (RL, cL_law, 7, (some .boolean), [], "law") 16 (.inl (some (.int r.1)), r.2, none, 600384, 7289834) 925 [(0, .ref b), (1, .ref v1), (2, .ref v2), (3, .ref v3), (4, .int v4)] [] f none c z := by
  unfold DL_c11 at h
  refine v_aload_n dL_law_925 rfl rfl ?_
  refine v_aload_n dL_law_926 rfl rfl ?_
  refine v_iload dL_law_927 rfl ?_
  refine v_iconst (v := 1) dL_law_929 (by decide) ?_
  refine v_iadd dL_law_930 ?_
  obtain ⟨x236, hx236, h⟩ := ob_some h
  refine v_sld dL_law_931 hx236 ?_
  refine v_aload_n dL_law_932 rfl rfl ?_
  obtain ⟨x237, f238, hx239, h⟩ := bW_some h
  have ehx239 := tL_validate (l := l) (g := g) (sz := none) N v1 x236 v3 f hx239
  refine v_gSX dL_law_933 ml_L_133 ok_L_validate ehx239 (by decide) rfl (rest := []) rfl (Nat.le_of_ble_eq_true rfl) ⟨by show _ ≤ 600384; omega, by show _ ≤ 7289834; omega⟩ ?_
  refine v_istore (ls1 := [(5, .int x237), (0, .ref b), (1, .ref v1), (2, .ref v2), (3, .ref v3), (4, .int v4)]) dL_law_936 (by decide) rfl ?_
  refine v_aload_n dL_law_938 rfl rfl ?_
  refine v_aload_n dL_law_939 rfl rfl ?_
  refine v_iload dL_law_940 rfl ?_
  refine v_iconst (v := 1) dL_law_942 (by decide) ?_
  refine v_iadd dL_law_943 ?_
  obtain ⟨x240, hx240, h⟩ := ob_some h
  refine v_sld dL_law_944 hx240 ?_
  obtain ⟨x241, f242, hx243, h⟩ := bW_some h
  have ehx243 := tX10_validate (l := l) (g := g) (sz := none) N v2 x240 f238 hx243
  refine v_gVI dL_law_945 ml_L_135 ok_X10_validate ehx243 (kX10_validate N v2 x240 f238 hx243) rfl (by decide) rfl (rest := []) rfl (Nat.le_of_ble_eq_true rfl) ⟨by show _ ≤ 600384; omega, by show _ ≤ 7289834; omega⟩ ?_
  refine v_istore (ls1 := [(6, .int x241), (5, .int x237), (0, .ref b), (1, .ref v1), (2, .ref v2), (3, .ref v3), (4, .int v4)]) dL_law_948 (by decide) rfl ?_
  refine v_aload_n dL_law_950 rfl rfl ?_
  obtain ⟨x244, hx246, h⟩ := ob_some h
  have ehx246 := tX10_thrown (l := l) (g := g) (sz := none) N v2 f242 hx246
  refine v_gVI dL_law_951 ml_L_91 ok_X10_thrown ehx246 (kX10_thrown N v2 f242 hx246) rfl (by decide) rfl (rest := []) rfl (Nat.le_of_ble_eq_true rfl) ⟨by show _ ≤ 600384; omega, by show _ ≤ 7289834; omega⟩ ?_
  refine v_iload dL_law_954 rfl ?_
  refine v_icmp_eq (tgt := 961) dL_law_956 (by decide) (fun c250 => ?_) (fun c250 => ?_)
  · replace h := ip_ c250 h
    refine v_iload dL_law_961 rfl ?_
    refine v_if_ne (tgt := 978) dL_law_963 (by decide) (fun c249 => ?_) (fun c249 => ?_)
    · replace h := in_ c249 h
      refine v_goto (tgt := 1438) dL_law_978 (by decide) ?_
      refine v_iinc (v := (v4 + 6)) (ls1 := [(4, .int (v4 + 6)), (6, .int x241), (5, .int x237), (0, .ref b), (1, .ref v1), (2, .ref v2), (3, .ref v3)]) dL_law_1438 rfl rfl (by decide) rfl ?_
      refine v_goto (tgt := 23) dL_law_1441 (by decide) ?_
      exact v_sub (vs_c rfl (vs_c rfl (vs_c rfl (vs_c rfl (vs_c rfl vs_n))))) (v_wide (by omega) (by omega) (hkk v1 v2 v3 (v4 + 6) f242 (c + 1) (z + 6) h))
    · replace h := ip_ c249 h
      refine v_aload_n dL_law_966 rfl rfl ?_
      refine v_iconst (v := 0) dL_law_967 (by decide) ?_
      obtain ⟨x247, hx247, h⟩ := ob_some h
      refine v_lald dL_law_968 hx247 ?_
      refine v_iload dL_law_969 rfl ?_
      refine v_i2l dL_law_971 ?_
      refine v_lcmp_eq (tgt := 978) dL_law_972 dL_law_973 (by decide) (fun c248 => ?_) (fun c248 => ?_)
      · replace h := ip_ c248 h
        refine v_goto (tgt := 1438) dL_law_978 (by decide) ?_
        refine v_iinc (v := (v4 + 6)) (ls1 := [(4, .int (v4 + 6)), (6, .int x241), (5, .int x237), (0, .ref b), (1, .ref v1), (2, .ref v2), (3, .ref v3)]) dL_law_1438 rfl rfl (by decide) rfl ?_
        refine v_goto (tgt := 23) dL_law_1441 (by decide) ?_
        exact v_sub (vs_c rfl (vs_c rfl (vs_c rfl (vs_c rfl (vs_c rfl vs_n))))) (v_wide (by omega) (by omega) (hkk v1 v2 v3 (v4 + 6) f242 (c + 1) (z + 6) h))
      · replace h := in_ c248 h
        refine v_iconst (v := 0) dL_law_976 (by decide) ?_
        obtain rfl := Option.some.inj h
        exact v_zretW dL_law_977 rfl (Or.inl rfl) rfl (by omega) (by omega)
  · replace h := in_ c250 h
    refine v_iconst (v := 0) dL_law_959 (by decide) ?_
    obtain rfl := Option.some.inj h
    exact v_zretW dL_law_960 rfl (Or.inl rfl) rfl (by omega) (by omega)

def DL_c12 (N L : Nat) (xs : Nat → Int32) (kk : Nat → Nat → Nat → Int32 → HF → Nat → Nat → Option (Int32 × HF)) (v1 : Nat) (v2 : Nat) (v3 : Nat) (v4 : Int32) (f : HF) (c z : Nat) : Option (Int32 × HF) :=
  (xsI L xs (v4 + (1 : Int32))).bind fun x252 =>
  bW (DL_appearance N v1 x252 v3 f) fun x253 f254 =>
  (xsI L xs (v4 + (1 : Int32))).bind fun x256 =>
  bW (DX10_appearance N v2 x256 f254) fun x257 f258 =>
  (DX10_thrown N v2 f258).bind fun x260 =>
  if x260 = x253 then
    if x253 = 0 then
      (aL f258 v3 (0 : Int32)).bind fun x263 =>
      if x263 = ((x257).toInt64) then
        kk v1 v2 v3 (v4 + 6) f258 (c + 1) (z + 6)
      else
        some ((0 : Int32), f258)
    else
      kk v1 v2 v3 (v4 + 6) f258 (c + 1) (z + 6)
  else
    some ((0 : Int32), f258)

set_option maxRecDepth 20000 in
theorem tL_c12 {l : Launch} {g : GT} (N b L : Nat) (xs : Nat → Int32) (kk : Nat → Nat → Nat → Int32 → HF → Nat → Nat → Option (Int32 × HF)) {r : Int32 × HF} (hkk : ∀ (w1 : Nat) (w2 : Nat) (w3 : Nat) (w4 : Int32) (f : HF) (c z : Nat), kk w1 w2 w3 w4 f c z = some r → V l g (Scr g b L xs) (RL, cL_law, 7, (some .boolean), [], "law") 16 (.inl (some (.int r.1)), r.2, none, 600384, 7289834) 23 [(0, .ref b), (1, .ref w1), (2, .ref w2), (3, .ref w3), (4, .int w4)] [] f none c z) (v1 : Nat) (v2 : Nat) (v3 : Nat) (v4 : Int32) (f : HF) (c z : Nat) (hg : c + 1 ≤ 600384 ∧ z + 6 ≤ 7289834) (h : DL_c12 N L xs kk v1 v2 v3 v4 f c z = some r) : V l g (Scr g b L xs) (RL, cL_law, 7, (some .boolean), [], "law") 16 (.inl (some (.int r.1)), r.2, none, 600384, 7289834) 981 [(0, .ref b), (1, .ref v1), (2, .ref v2), (3, .ref v3), (4, .int v4)] [] f none c z := by
  unfold DL_c12 at h
  refine v_aload_n dL_law_981 rfl rfl ?_
  refine v_aload_n dL_law_982 rfl rfl ?_
  refine v_iload dL_law_983 rfl ?_
  refine v_iconst (v := 1) dL_law_985 (by decide) ?_
  refine v_iadd dL_law_986 ?_
  obtain ⟨x252, hx252, h⟩ := ob_some h
  refine v_sld dL_law_987 hx252 ?_
  refine v_aload_n dL_law_988 rfl rfl ?_
  obtain ⟨x253, f254, hx255, h⟩ := bW_some h
  have ehx255 := tL_appearance (l := l) (g := g) (sz := none) N v1 x252 v3 f hx255
  refine v_gSX dL_law_989 ml_L_136 ok_L_appearance ehx255 (by decide) rfl (rest := []) rfl (Nat.le_of_ble_eq_true rfl) ⟨by show _ ≤ 600384; omega, by show _ ≤ 7289834; omega⟩ ?_
  refine v_istore (ls1 := [(5, .int x253), (0, .ref b), (1, .ref v1), (2, .ref v2), (3, .ref v3), (4, .int v4)]) dL_law_992 (by decide) rfl ?_
  refine v_aload_n dL_law_994 rfl rfl ?_
  refine v_aload_n dL_law_995 rfl rfl ?_
  refine v_iload dL_law_996 rfl ?_
  refine v_iconst (v := 1) dL_law_998 (by decide) ?_
  refine v_iadd dL_law_999 ?_
  obtain ⟨x256, hx256, h⟩ := ob_some h
  refine v_sld dL_law_1000 hx256 ?_
  obtain ⟨x257, f258, hx259, h⟩ := bW_some h
  have ehx259 := tX10_appearance (l := l) (g := g) (sz := none) N v2 x256 f254 hx259
  refine v_gVI dL_law_1001 ml_L_138 ok_X10_appearance ehx259 (kX10_appearance N v2 x256 f254 hx259) rfl (by decide) rfl (rest := []) rfl (Nat.le_of_ble_eq_true rfl) ⟨by show _ ≤ 600384; omega, by show _ ≤ 7289834; omega⟩ ?_
  refine v_istore (ls1 := [(6, .int x257), (5, .int x253), (0, .ref b), (1, .ref v1), (2, .ref v2), (3, .ref v3), (4, .int v4)]) dL_law_1004 (by decide) rfl ?_
  refine v_aload_n dL_law_1006 rfl rfl ?_
  obtain ⟨x260, hx262, h⟩ := ob_some h
  have ehx262 := tX10_thrown (l := l) (g := g) (sz := none) N v2 f258 hx262
  refine v_gVI dL_law_1007 ml_L_91 ok_X10_thrown ehx262 (kX10_thrown N v2 f258 hx262) rfl (by decide) rfl (rest := []) rfl (Nat.le_of_ble_eq_true rfl) ⟨by show _ ≤ 600384; omega, by show _ ≤ 7289834; omega⟩ ?_
  refine v_iload dL_law_1010 rfl ?_
  refine v_icmp_eq (tgt := 1017) dL_law_1012 (by decide) (fun c266 => ?_) (fun c266 => ?_)
  · replace h := ip_ c266 h
    refine v_iload dL_law_1017 rfl ?_
    refine v_if_ne (tgt := 1034) dL_law_1019 (by decide) (fun c265 => ?_) (fun c265 => ?_)
    · replace h := in_ c265 h
      refine v_goto (tgt := 1438) dL_law_1034 (by decide) ?_
      refine v_iinc (v := (v4 + 6)) (ls1 := [(4, .int (v4 + 6)), (6, .int x257), (5, .int x253), (0, .ref b), (1, .ref v1), (2, .ref v2), (3, .ref v3)]) dL_law_1438 rfl rfl (by decide) rfl ?_
      refine v_goto (tgt := 23) dL_law_1441 (by decide) ?_
      exact v_sub (vs_c rfl (vs_c rfl (vs_c rfl (vs_c rfl (vs_c rfl vs_n))))) (v_wide (by omega) (by omega) (hkk v1 v2 v3 (v4 + 6) f258 (c + 1) (z + 6) h))
    · replace h := ip_ c265 h
      refine v_aload_n dL_law_1022 rfl rfl ?_
      refine v_iconst (v := 0) dL_law_1023 (by decide) ?_
      obtain ⟨x263, hx263, h⟩ := ob_some h
      refine v_lald dL_law_1024 hx263 ?_
      refine v_iload dL_law_1025 rfl ?_
      refine v_i2l dL_law_1027 ?_
      refine v_lcmp_eq (tgt := 1034) dL_law_1028 dL_law_1029 (by decide) (fun c264 => ?_) (fun c264 => ?_)
      · replace h := ip_ c264 h
        refine v_goto (tgt := 1438) dL_law_1034 (by decide) ?_
        refine v_iinc (v := (v4 + 6)) (ls1 := [(4, .int (v4 + 6)), (6, .int x257), (5, .int x253), (0, .ref b), (1, .ref v1), (2, .ref v2), (3, .ref v3)]) dL_law_1438 rfl rfl (by decide) rfl ?_
        refine v_goto (tgt := 23) dL_law_1441 (by decide) ?_
        exact v_sub (vs_c rfl (vs_c rfl (vs_c rfl (vs_c rfl (vs_c rfl vs_n))))) (v_wide (by omega) (by omega) (hkk v1 v2 v3 (v4 + 6) f258 (c + 1) (z + 6) h))
      · replace h := in_ c264 h
        refine v_iconst (v := 0) dL_law_1032 (by decide) ?_
        obtain rfl := Option.some.inj h
        exact v_zretW dL_law_1033 rfl (Or.inl rfl) rfl (by omega) (by omega)
  · replace h := in_ c266 h
    refine v_iconst (v := 0) dL_law_1015 (by decide) ?_
    obtain rfl := Option.some.inj h
    exact v_zretW dL_law_1016 rfl (Or.inl rfl) rfl (by omega) (by omega)

def DL_c13 (N L : Nat) (xs : Nat → Int32) (kk : Nat → Nat → Nat → Int32 → HF → Nat → Nat → Option (Int32 × HF)) (v1 : Nat) (v2 : Nat) (v3 : Nat) (v4 : Int32) (f : HF) (c z : Nat) : Option (Int32 × HF) :=
  (xsI L xs (v4 + (1 : Int32))).bind fun x268 =>
  (xsI L xs (v4 + (2 : Int32))).bind fun x269 =>
  bW (DL_mark N v1 x268 x269 v3 f) fun x270 f271 =>
  (xsI L xs (v4 + (1 : Int32))).bind fun x273 =>
  (xsI L xs (v4 + (2 : Int32))).bind fun x274 =>
  bW (DX10_mark_ N v2 x273 x274 f271) fun x275 f276 =>
  (DX10_thrown N v2 f276).bind fun x278 =>
  if x278 = x270 then
    if x270 = 0 then
      (aL f276 v3 (0 : Int32)).bind fun x281 =>
      if x281 = ((x275).toInt64) then
        kk v1 v2 v3 (v4 + 6) f276 (c + 1) (z + 6)
      else
        some ((0 : Int32), f276)
    else
      kk v1 v2 v3 (v4 + 6) f276 (c + 1) (z + 6)
  else
    some ((0 : Int32), f276)

set_option maxRecDepth 20000 in
theorem tL_c13 {l : Launch} {g : GT} (N b L : Nat) (xs : Nat → Int32) (kk : Nat → Nat → Nat → Int32 → HF → Nat → Nat → Option (Int32 × HF)) {r : Int32 × HF} (hkk : ∀ (w1 : Nat) (w2 : Nat) (w3 : Nat) (w4 : Int32) (f : HF) (c z : Nat), kk w1 w2 w3 w4 f c z = some r → V l g (Scr g b L xs) (RL, cL_law, 7, (some .boolean), [], "law") 16 (.inl (some (.int r.1)), r.2, none, 600384, 7289834) 23 [(0, .ref b), (1, .ref w1), (2, .ref w2), (3, .ref w3), (4, .int w4)] [] f none c z) (v1 : Nat) (v2 : Nat) (v3 : Nat) (v4 : Int32) (f : HF) (c z : Nat) (hg : c + 1 ≤ 600384 ∧ z + 6 ≤ 7289834) (h : DL_c13 N L xs kk v1 v2 v3 v4 f c z = some r) : V l g (Scr g b L xs) (RL, cL_law, 7, (some .boolean), [], "law") 16 (.inl (some (.int r.1)), r.2, none, 600384, 7289834) 1037 [(0, .ref b), (1, .ref v1), (2, .ref v2), (3, .ref v3), (4, .int v4)] [] f none c z := by
  unfold DL_c13 at h
  refine v_aload_n dL_law_1037 rfl rfl ?_
  refine v_aload_n dL_law_1038 rfl rfl ?_
  refine v_iload dL_law_1039 rfl ?_
  refine v_iconst (v := 1) dL_law_1041 (by decide) ?_
  refine v_iadd dL_law_1042 ?_
  obtain ⟨x268, hx268, h⟩ := ob_some h
  refine v_sld dL_law_1043 hx268 ?_
  refine v_aload_n dL_law_1044 rfl rfl ?_
  refine v_iload dL_law_1045 rfl ?_
  refine v_iconst (v := 2) dL_law_1047 (by decide) ?_
  refine v_iadd dL_law_1048 ?_
  obtain ⟨x269, hx269, h⟩ := ob_some h
  refine v_sld dL_law_1049 hx269 ?_
  refine v_aload_n dL_law_1050 rfl rfl ?_
  obtain ⟨x270, f271, hx272, h⟩ := bW_some h
  have ehx272 := tL_mark (l := l) (g := g) (sz := none) N v1 x268 x269 v3 f hx272
  refine v_gSX dL_law_1051 ml_L_139 ok_L_mark ehx272 (by decide) rfl (rest := []) rfl (Nat.le_of_ble_eq_true rfl) ⟨by show _ ≤ 600384; omega, by show _ ≤ 7289834; omega⟩ ?_
  refine v_istore (ls1 := [(5, .int x270), (0, .ref b), (1, .ref v1), (2, .ref v2), (3, .ref v3), (4, .int v4)]) dL_law_1054 (by decide) rfl ?_
  refine v_aload_n dL_law_1056 rfl rfl ?_
  refine v_aload_n dL_law_1057 rfl rfl ?_
  refine v_iload dL_law_1058 rfl ?_
  refine v_iconst (v := 1) dL_law_1060 (by decide) ?_
  refine v_iadd dL_law_1061 ?_
  obtain ⟨x273, hx273, h⟩ := ob_some h
  refine v_sld dL_law_1062 hx273 ?_
  refine v_aload_n dL_law_1063 rfl rfl ?_
  refine v_iload dL_law_1064 rfl ?_
  refine v_iconst (v := 2) dL_law_1066 (by decide) ?_
  refine v_iadd dL_law_1067 ?_
  obtain ⟨x274, hx274, h⟩ := ob_some h
  refine v_sld dL_law_1068 hx274 ?_
  obtain ⟨x275, f276, hx277, h⟩ := bW_some h
  have ehx277 := tX10_mark_ (l := l) (g := g) (sz := none) N v2 x273 x274 f271 hx277
  refine v_gVI dL_law_1069 ml_L_141 ok_X10_mark_ ehx277 (kX10_mark_ N v2 x273 x274 f271 hx277) rfl (by decide) rfl (rest := []) rfl (Nat.le_of_ble_eq_true rfl) ⟨by show _ ≤ 600384; omega, by show _ ≤ 7289834; omega⟩ ?_
  refine v_istore (ls1 := [(6, .int x275), (5, .int x270), (0, .ref b), (1, .ref v1), (2, .ref v2), (3, .ref v3), (4, .int v4)]) dL_law_1072 (by decide) rfl ?_
  refine v_aload_n dL_law_1074 rfl rfl ?_
  obtain ⟨x278, hx280, h⟩ := ob_some h
  have ehx280 := tX10_thrown (l := l) (g := g) (sz := none) N v2 f276 hx280
  refine v_gVI dL_law_1075 ml_L_91 ok_X10_thrown ehx280 (kX10_thrown N v2 f276 hx280) rfl (by decide) rfl (rest := []) rfl (Nat.le_of_ble_eq_true rfl) ⟨by show _ ≤ 600384; omega, by show _ ≤ 7289834; omega⟩ ?_
  refine v_iload dL_law_1078 rfl ?_
  refine v_icmp_eq (tgt := 1085) dL_law_1080 (by decide) (fun c284 => ?_) (fun c284 => ?_)
  · replace h := ip_ c284 h
    refine v_iload dL_law_1085 rfl ?_
    refine v_if_ne (tgt := 1102) dL_law_1087 (by decide) (fun c283 => ?_) (fun c283 => ?_)
    · replace h := in_ c283 h
      refine v_goto (tgt := 1438) dL_law_1102 (by decide) ?_
      refine v_iinc (v := (v4 + 6)) (ls1 := [(4, .int (v4 + 6)), (6, .int x275), (5, .int x270), (0, .ref b), (1, .ref v1), (2, .ref v2), (3, .ref v3)]) dL_law_1438 rfl rfl (by decide) rfl ?_
      refine v_goto (tgt := 23) dL_law_1441 (by decide) ?_
      exact v_sub (vs_c rfl (vs_c rfl (vs_c rfl (vs_c rfl (vs_c rfl vs_n))))) (v_wide (by omega) (by omega) (hkk v1 v2 v3 (v4 + 6) f276 (c + 1) (z + 6) h))
    · replace h := ip_ c283 h
      refine v_aload_n dL_law_1090 rfl rfl ?_
      refine v_iconst (v := 0) dL_law_1091 (by decide) ?_
      obtain ⟨x281, hx281, h⟩ := ob_some h
      refine v_lald dL_law_1092 hx281 ?_
      refine v_iload dL_law_1093 rfl ?_
      refine v_i2l dL_law_1095 ?_
      refine v_lcmp_eq (tgt := 1102) dL_law_1096 dL_law_1097 (by decide) (fun c282 => ?_) (fun c282 => ?_)
      · replace h := ip_ c282 h
        refine v_goto (tgt := 1438) dL_law_1102 (by decide) ?_
        refine v_iinc (v := (v4 + 6)) (ls1 := [(4, .int (v4 + 6)), (6, .int x275), (5, .int x270), (0, .ref b), (1, .ref v1), (2, .ref v2), (3, .ref v3)]) dL_law_1438 rfl rfl (by decide) rfl ?_
        refine v_goto (tgt := 23) dL_law_1441 (by decide) ?_
        exact v_sub (vs_c rfl (vs_c rfl (vs_c rfl (vs_c rfl (vs_c rfl vs_n))))) (v_wide (by omega) (by omega) (hkk v1 v2 v3 (v4 + 6) f276 (c + 1) (z + 6) h))
      · replace h := in_ c282 h
        refine v_iconst (v := 0) dL_law_1100 (by decide) ?_
        obtain rfl := Option.some.inj h
        exact v_zretW dL_law_1101 rfl (Or.inl rfl) rfl (by omega) (by omega)
  · replace h := in_ c284 h
    refine v_iconst (v := 0) dL_law_1083 (by decide) ?_
    obtain rfl := Option.some.inj h
    exact v_zretW dL_law_1084 rfl (Or.inl rfl) rfl (by omega) (by omega)

def DL_c14 (N L : Nat) (xs : Nat → Int32) (kk : Nat → Nat → Nat → Int32 → HF → Nat → Nat → Option (Int32 × HF)) (v1 : Nat) (v2 : Nat) (v3 : Nat) (v4 : Int32) (f : HF) (c z : Nat) : Option (Int32 × HF) :=
  (xsI L xs (v4 + (1 : Int32))).bind fun x286 =>
  bW (DL_flatten N v1 x286 v3 f) fun x287 f288 =>
  (xsI L xs (v4 + (1 : Int32))).bind fun x290 =>
  bW (DX10_flatten N v2 x290 f288) fun x291 f292 =>
  (DX10_thrown N v2 f292).bind fun x294 =>
  if x294 = x287 then
    if x287 = 0 then
      (aL f292 v3 (0 : Int32)).bind fun x297 =>
      if x297 = ((x291).toInt64) then
        kk v1 v2 v3 (v4 + 6) f292 (c + 1) (z + 6)
      else
        some ((0 : Int32), f292)
    else
      kk v1 v2 v3 (v4 + 6) f292 (c + 1) (z + 6)
  else
    some ((0 : Int32), f292)

set_option maxRecDepth 20000 in
theorem tL_c14 {l : Launch} {g : GT} (N b L : Nat) (xs : Nat → Int32) (kk : Nat → Nat → Nat → Int32 → HF → Nat → Nat → Option (Int32 × HF)) {r : Int32 × HF} (hkk : ∀ (w1 : Nat) (w2 : Nat) (w3 : Nat) (w4 : Int32) (f : HF) (c z : Nat), kk w1 w2 w3 w4 f c z = some r → V l g (Scr g b L xs) (RL, cL_law, 7, (some .boolean), [], "law") 16 (.inl (some (.int r.1)), r.2, none, 600384, 7289834) 23 [(0, .ref b), (1, .ref w1), (2, .ref w2), (3, .ref w3), (4, .int w4)] [] f none c z) (v1 : Nat) (v2 : Nat) (v3 : Nat) (v4 : Int32) (f : HF) (c z : Nat) (hg : c + 1 ≤ 600384 ∧ z + 6 ≤ 7289834) (h : DL_c14 N L xs kk v1 v2 v3 v4 f c z = some r) : V l g (Scr g b L xs) (RL, cL_law, 7, (some .boolean), [], "law") 16 (.inl (some (.int r.1)), r.2, none, 600384, 7289834) 1105 [(0, .ref b), (1, .ref v1), (2, .ref v2), (3, .ref v3), (4, .int v4)] [] f none c z := by
  unfold DL_c14 at h
  refine v_aload_n dL_law_1105 rfl rfl ?_
  refine v_aload_n dL_law_1106 rfl rfl ?_
  refine v_iload dL_law_1107 rfl ?_
  refine v_iconst (v := 1) dL_law_1109 (by decide) ?_
  refine v_iadd dL_law_1110 ?_
  obtain ⟨x286, hx286, h⟩ := ob_some h
  refine v_sld dL_law_1111 hx286 ?_
  refine v_aload_n dL_law_1112 rfl rfl ?_
  obtain ⟨x287, f288, hx289, h⟩ := bW_some h
  have ehx289 := tL_flatten (l := l) (g := g) (sz := none) N v1 x286 v3 f hx289
  refine v_gSX dL_law_1113 ml_L_142 ok_L_flatten ehx289 (by decide) rfl (rest := []) rfl (Nat.le_of_ble_eq_true rfl) ⟨by show _ ≤ 600384; omega, by show _ ≤ 7289834; omega⟩ ?_
  refine v_istore (ls1 := [(5, .int x287), (0, .ref b), (1, .ref v1), (2, .ref v2), (3, .ref v3), (4, .int v4)]) dL_law_1116 (by decide) rfl ?_
  refine v_aload_n dL_law_1118 rfl rfl ?_
  refine v_aload_n dL_law_1119 rfl rfl ?_
  refine v_iload dL_law_1120 rfl ?_
  refine v_iconst (v := 1) dL_law_1122 (by decide) ?_
  refine v_iadd dL_law_1123 ?_
  obtain ⟨x290, hx290, h⟩ := ob_some h
  refine v_sld dL_law_1124 hx290 ?_
  obtain ⟨x291, f292, hx293, h⟩ := bW_some h
  have ehx293 := tX10_flatten (l := l) (g := g) (sz := none) N v2 x290 f288 hx293
  refine v_gVI dL_law_1125 ml_L_144 ok_X10_flatten ehx293 (kX10_flatten N v2 x290 f288 hx293) rfl (by decide) rfl (rest := []) rfl (Nat.le_of_ble_eq_true rfl) ⟨by show _ ≤ 600384; omega, by show _ ≤ 7289834; omega⟩ ?_
  refine v_istore (ls1 := [(6, .int x291), (5, .int x287), (0, .ref b), (1, .ref v1), (2, .ref v2), (3, .ref v3), (4, .int v4)]) dL_law_1128 (by decide) rfl ?_
  refine v_aload_n dL_law_1130 rfl rfl ?_
  obtain ⟨x294, hx296, h⟩ := ob_some h
  have ehx296 := tX10_thrown (l := l) (g := g) (sz := none) N v2 f292 hx296
  refine v_gVI dL_law_1131 ml_L_91 ok_X10_thrown ehx296 (kX10_thrown N v2 f292 hx296) rfl (by decide) rfl (rest := []) rfl (Nat.le_of_ble_eq_true rfl) ⟨by show _ ≤ 600384; omega, by show _ ≤ 7289834; omega⟩ ?_
  refine v_iload dL_law_1134 rfl ?_
  refine v_icmp_eq (tgt := 1141) dL_law_1136 (by decide) (fun c300 => ?_) (fun c300 => ?_)
  · replace h := ip_ c300 h
    refine v_iload dL_law_1141 rfl ?_
    refine v_if_ne (tgt := 1158) dL_law_1143 (by decide) (fun c299 => ?_) (fun c299 => ?_)
    · replace h := in_ c299 h
      refine v_goto (tgt := 1438) dL_law_1158 (by decide) ?_
      refine v_iinc (v := (v4 + 6)) (ls1 := [(4, .int (v4 + 6)), (6, .int x291), (5, .int x287), (0, .ref b), (1, .ref v1), (2, .ref v2), (3, .ref v3)]) dL_law_1438 rfl rfl (by decide) rfl ?_
      refine v_goto (tgt := 23) dL_law_1441 (by decide) ?_
      exact v_sub (vs_c rfl (vs_c rfl (vs_c rfl (vs_c rfl (vs_c rfl vs_n))))) (v_wide (by omega) (by omega) (hkk v1 v2 v3 (v4 + 6) f292 (c + 1) (z + 6) h))
    · replace h := ip_ c299 h
      refine v_aload_n dL_law_1146 rfl rfl ?_
      refine v_iconst (v := 0) dL_law_1147 (by decide) ?_
      obtain ⟨x297, hx297, h⟩ := ob_some h
      refine v_lald dL_law_1148 hx297 ?_
      refine v_iload dL_law_1149 rfl ?_
      refine v_i2l dL_law_1151 ?_
      refine v_lcmp_eq (tgt := 1158) dL_law_1152 dL_law_1153 (by decide) (fun c298 => ?_) (fun c298 => ?_)
      · replace h := ip_ c298 h
        refine v_goto (tgt := 1438) dL_law_1158 (by decide) ?_
        refine v_iinc (v := (v4 + 6)) (ls1 := [(4, .int (v4 + 6)), (6, .int x291), (5, .int x287), (0, .ref b), (1, .ref v1), (2, .ref v2), (3, .ref v3)]) dL_law_1438 rfl rfl (by decide) rfl ?_
        refine v_goto (tgt := 23) dL_law_1441 (by decide) ?_
        exact v_sub (vs_c rfl (vs_c rfl (vs_c rfl (vs_c rfl (vs_c rfl vs_n))))) (v_wide (by omega) (by omega) (hkk v1 v2 v3 (v4 + 6) f292 (c + 1) (z + 6) h))
      · replace h := in_ c298 h
        refine v_iconst (v := 0) dL_law_1156 (by decide) ?_
        obtain rfl := Option.some.inj h
        exact v_zretW dL_law_1157 rfl (Or.inl rfl) rfl (by omega) (by omega)
  · replace h := in_ c300 h
    refine v_iconst (v := 0) dL_law_1139 (by decide) ?_
    obtain rfl := Option.some.inj h
    exact v_zretW dL_law_1140 rfl (Or.inl rfl) rfl (by omega) (by omega)

def DL_c15 (N L : Nat) (xs : Nat → Int32) (kk : Nat → Nat → Nat → Int32 → HF → Nat → Nat → Option (Int32 × HF)) (v1 : Nat) (v2 : Nat) (v3 : Nat) (v4 : Int32) (f : HF) (c z : Nat) : Option (Int32 × HF) :=
  (xsI L xs (v4 + (1 : Int32))).bind fun x302 =>
  (xsI L xs (v4 + (2 : Int32))).bind fun x303 =>
  bW (DL_page N v1 x302 x303 v3 f) fun x304 f305 =>
  (xsI L xs (v4 + (1 : Int32))).bind fun x307 =>
  (xsI L xs (v4 + (2 : Int32))).bind fun x308 =>
  bW (DX10_page N v2 x307 x308 f305) fun x309 f310 =>
  (DX10_thrown N v2 f310).bind fun x312 =>
  if x312 = x304 then
    if x304 = 0 then
      (aL f310 v3 (0 : Int32)).bind fun x315 =>
      if x315 = ((x309).toInt64) then
        kk v1 v2 v3 (v4 + 6) f310 (c + 1) (z + 6)
      else
        some ((0 : Int32), f310)
    else
      kk v1 v2 v3 (v4 + 6) f310 (c + 1) (z + 6)
  else
    some ((0 : Int32), f310)

set_option maxRecDepth 20000 in
theorem tL_c15 {l : Launch} {g : GT} (N b L : Nat) (xs : Nat → Int32) (kk : Nat → Nat → Nat → Int32 → HF → Nat → Nat → Option (Int32 × HF)) {r : Int32 × HF} (hkk : ∀ (w1 : Nat) (w2 : Nat) (w3 : Nat) (w4 : Int32) (f : HF) (c z : Nat), kk w1 w2 w3 w4 f c z = some r → V l g (Scr g b L xs) (RL, cL_law, 7, (some .boolean), [], "law") 16 (.inl (some (.int r.1)), r.2, none, 600384, 7289834) 23 [(0, .ref b), (1, .ref w1), (2, .ref w2), (3, .ref w3), (4, .int w4)] [] f none c z) (v1 : Nat) (v2 : Nat) (v3 : Nat) (v4 : Int32) (f : HF) (c z : Nat) (hg : c + 1 ≤ 600384 ∧ z + 6 ≤ 7289834) (h : DL_c15 N L xs kk v1 v2 v3 v4 f c z = some r) : V l g (Scr g b L xs) (RL, cL_law, 7, (some .boolean), [], "law") 16 (.inl (some (.int r.1)), r.2, none, 600384, 7289834) 1161 [(0, .ref b), (1, .ref v1), (2, .ref v2), (3, .ref v3), (4, .int v4)] [] f none c z := by
  unfold DL_c15 at h
  refine v_aload_n dL_law_1161 rfl rfl ?_
  refine v_aload_n dL_law_1162 rfl rfl ?_
  refine v_iload dL_law_1163 rfl ?_
  refine v_iconst (v := 1) dL_law_1165 (by decide) ?_
  refine v_iadd dL_law_1166 ?_
  obtain ⟨x302, hx302, h⟩ := ob_some h
  refine v_sld dL_law_1167 hx302 ?_
  refine v_aload_n dL_law_1168 rfl rfl ?_
  refine v_iload dL_law_1169 rfl ?_
  refine v_iconst (v := 2) dL_law_1171 (by decide) ?_
  refine v_iadd dL_law_1172 ?_
  obtain ⟨x303, hx303, h⟩ := ob_some h
  refine v_sld dL_law_1173 hx303 ?_
  refine v_aload_n dL_law_1174 rfl rfl ?_
  obtain ⟨x304, f305, hx306, h⟩ := bW_some h
  have ehx306 := tL_page (l := l) (g := g) (sz := none) N v1 x302 x303 v3 f hx306
  refine v_gSX dL_law_1175 ml_L_145 ok_L_page ehx306 (by decide) rfl (rest := []) rfl (Nat.le_of_ble_eq_true rfl) ⟨by show _ ≤ 600384; omega, by show _ ≤ 7289834; omega⟩ ?_
  refine v_istore (ls1 := [(5, .int x304), (0, .ref b), (1, .ref v1), (2, .ref v2), (3, .ref v3), (4, .int v4)]) dL_law_1178 (by decide) rfl ?_
  refine v_aload_n dL_law_1180 rfl rfl ?_
  refine v_aload_n dL_law_1181 rfl rfl ?_
  refine v_iload dL_law_1182 rfl ?_
  refine v_iconst (v := 1) dL_law_1184 (by decide) ?_
  refine v_iadd dL_law_1185 ?_
  obtain ⟨x307, hx307, h⟩ := ob_some h
  refine v_sld dL_law_1186 hx307 ?_
  refine v_aload_n dL_law_1187 rfl rfl ?_
  refine v_iload dL_law_1188 rfl ?_
  refine v_iconst (v := 2) dL_law_1190 (by decide) ?_
  refine v_iadd dL_law_1191 ?_
  obtain ⟨x308, hx308, h⟩ := ob_some h
  refine v_sld dL_law_1192 hx308 ?_
  obtain ⟨x309, f310, hx311, h⟩ := bW_some h
  have ehx311 := tX10_page (l := l) (g := g) (sz := none) N v2 x307 x308 f305 hx311
  refine v_gVI dL_law_1193 ml_L_147 ok_X10_page ehx311 (kX10_page N v2 x307 x308 f305 hx311) rfl (by decide) rfl (rest := []) rfl (Nat.le_of_ble_eq_true rfl) ⟨by show _ ≤ 600384; omega, by show _ ≤ 7289834; omega⟩ ?_
  refine v_istore (ls1 := [(6, .int x309), (5, .int x304), (0, .ref b), (1, .ref v1), (2, .ref v2), (3, .ref v3), (4, .int v4)]) dL_law_1196 (by decide) rfl ?_
  refine v_aload_n dL_law_1198 rfl rfl ?_
  obtain ⟨x312, hx314, h⟩ := ob_some h
  have ehx314 := tX10_thrown (l := l) (g := g) (sz := none) N v2 f310 hx314
  refine v_gVI dL_law_1199 ml_L_91 ok_X10_thrown ehx314 (kX10_thrown N v2 f310 hx314) rfl (by decide) rfl (rest := []) rfl (Nat.le_of_ble_eq_true rfl) ⟨by show _ ≤ 600384; omega, by show _ ≤ 7289834; omega⟩ ?_
  refine v_iload dL_law_1202 rfl ?_
  refine v_icmp_eq (tgt := 1209) dL_law_1204 (by decide) (fun c318 => ?_) (fun c318 => ?_)
  · replace h := ip_ c318 h
    refine v_iload dL_law_1209 rfl ?_
    refine v_if_ne (tgt := 1226) dL_law_1211 (by decide) (fun c317 => ?_) (fun c317 => ?_)
    · replace h := in_ c317 h
      refine v_goto (tgt := 1438) dL_law_1226 (by decide) ?_
      refine v_iinc (v := (v4 + 6)) (ls1 := [(4, .int (v4 + 6)), (6, .int x309), (5, .int x304), (0, .ref b), (1, .ref v1), (2, .ref v2), (3, .ref v3)]) dL_law_1438 rfl rfl (by decide) rfl ?_
      refine v_goto (tgt := 23) dL_law_1441 (by decide) ?_
      exact v_sub (vs_c rfl (vs_c rfl (vs_c rfl (vs_c rfl (vs_c rfl vs_n))))) (v_wide (by omega) (by omega) (hkk v1 v2 v3 (v4 + 6) f310 (c + 1) (z + 6) h))
    · replace h := ip_ c317 h
      refine v_aload_n dL_law_1214 rfl rfl ?_
      refine v_iconst (v := 0) dL_law_1215 (by decide) ?_
      obtain ⟨x315, hx315, h⟩ := ob_some h
      refine v_lald dL_law_1216 hx315 ?_
      refine v_iload dL_law_1217 rfl ?_
      refine v_i2l dL_law_1219 ?_
      refine v_lcmp_eq (tgt := 1226) dL_law_1220 dL_law_1221 (by decide) (fun c316 => ?_) (fun c316 => ?_)
      · replace h := ip_ c316 h
        refine v_goto (tgt := 1438) dL_law_1226 (by decide) ?_
        refine v_iinc (v := (v4 + 6)) (ls1 := [(4, .int (v4 + 6)), (6, .int x309), (5, .int x304), (0, .ref b), (1, .ref v1), (2, .ref v2), (3, .ref v3)]) dL_law_1438 rfl rfl (by decide) rfl ?_
        refine v_goto (tgt := 23) dL_law_1441 (by decide) ?_
        exact v_sub (vs_c rfl (vs_c rfl (vs_c rfl (vs_c rfl (vs_c rfl vs_n))))) (v_wide (by omega) (by omega) (hkk v1 v2 v3 (v4 + 6) f310 (c + 1) (z + 6) h))
      · replace h := in_ c316 h
        refine v_iconst (v := 0) dL_law_1224 (by decide) ?_
        obtain rfl := Option.some.inj h
        exact v_zretW dL_law_1225 rfl (Or.inl rfl) rfl (by omega) (by omega)
  · replace h := in_ c318 h
    refine v_iconst (v := 0) dL_law_1207 (by decide) ?_
    obtain rfl := Option.some.inj h
    exact v_zretW dL_law_1208 rfl (Or.inl rfl) rfl (by omega) (by omega)

def DL_c16 (N L : Nat) (xs : Nat → Int32) (kk : Nat → Nat → Nat → Int32 → HF → Nat → Nat → Option (Int32 × HF)) (v1 : Nat) (v2 : Nat) (v3 : Nat) (v4 : Int32) (f : HF) (c z : Nat) : Option (Int32 × HF) :=
  bN (DX9_write N v1 f) fun x320 f321 =>
  bW (DX10_write N v2 f321) fun x323 f324 =>
  if x320 = x323 then
    kk v1 v2 v3 (v4 + 6) f324 (c + 1) (z + 6)
  else
    some ((0 : Int32), f324)

set_option maxRecDepth 20000 in
theorem tL_c16 {l : Launch} {g : GT} (N b L : Nat) (xs : Nat → Int32) (kk : Nat → Nat → Nat → Int32 → HF → Nat → Nat → Option (Int32 × HF)) {r : Int32 × HF} (hkk : ∀ (w1 : Nat) (w2 : Nat) (w3 : Nat) (w4 : Int32) (f : HF) (c z : Nat), kk w1 w2 w3 w4 f c z = some r → V l g (Scr g b L xs) (RL, cL_law, 7, (some .boolean), [], "law") 16 (.inl (some (.int r.1)), r.2, none, 600384, 7289834) 23 [(0, .ref b), (1, .ref w1), (2, .ref w2), (3, .ref w3), (4, .int w4)] [] f none c z) (v1 : Nat) (v2 : Nat) (v3 : Nat) (v4 : Int32) (f : HF) (c z : Nat) (hg : c + 1 ≤ 600384 ∧ z + 6 ≤ 7289834) (h : DL_c16 N L xs kk v1 v2 v3 v4 f c z = some r) : V l g (Scr g b L xs) (RL, cL_law, 7, (some .boolean), [], "law") 16 (.inl (some (.int r.1)), r.2, none, 600384, 7289834) 1229 [(0, .ref b), (1, .ref v1), (2, .ref v2), (3, .ref v3), (4, .int v4)] [] f none c z := by
  unfold DL_c16 at h
  refine v_aload_n dL_law_1229 rfl rfl ?_
  obtain ⟨x320, f321, hx322, h⟩ := bN_some h
  have ehx322 := tX9_write (l := l) (g := g) (sz := none) N v1 f hx322
  refine v_gVI dL_law_1230 ml_L_148 ok_X9_write ehx322 (kX9_write N v1 f hx322) rfl (by decide) rfl (rest := []) rfl (Nat.le_of_ble_eq_true rfl) ⟨by show _ ≤ 600384; omega, by show _ ≤ 7289834; omega⟩ ?_
  refine v_aload_n dL_law_1233 rfl rfl ?_
  obtain ⟨x323, f324, hx325, h⟩ := bW_some h
  have ehx325 := tX10_write (l := l) (g := g) (sz := none) N v2 f321 hx325
  refine v_gVI dL_law_1234 ml_L_151 ok_X10_write ehx325 (kX10_write N v2 f321 hx325) rfl (by decide) rfl (rest := [.int x320]) rfl (Nat.le_of_ble_eq_true rfl) ⟨by show _ ≤ 600384; omega, by show _ ≤ 7289834; omega⟩ ?_
  refine v_icmp_eq (tgt := 1438) dL_law_1237 (by decide) (fun c326 => ?_) (fun c326 => ?_)
  · replace h := ip_ c326 h
    refine v_iinc (v := (v4 + 6)) (ls1 := [(4, .int (v4 + 6)), (0, .ref b), (1, .ref v1), (2, .ref v2), (3, .ref v3)]) dL_law_1438 rfl rfl (by decide) rfl ?_
    refine v_goto (tgt := 23) dL_law_1441 (by decide) ?_
    exact v_sub (vs_c rfl (vs_c rfl (vs_c rfl (vs_c rfl (vs_c rfl vs_n))))) (v_wide (by omega) (by omega) (hkk v1 v2 v3 (v4 + 6) f324 (c + 1) (z + 6) h))
  · replace h := in_ c326 h
    refine v_iconst (v := 0) dL_law_1240 (by decide) ?_
    obtain rfl := Option.some.inj h
    exact v_zretW dL_law_1241 rfl (Or.inl rfl) rfl (by omega) (by omega)

def DL_c17 (N L : Nat) (xs : Nat → Int32) (kk : Nat → Nat → Nat → Int32 → HF → Nat → Nat → Option (Int32 × HF)) (v1 : Nat) (v2 : Nat) (v3 : Nat) (v4 : Int32) (f : HF) (c z : Nat) : Option (Int32 × HF) :=
  (xsI L xs (v4 + (1 : Int32))).bind fun x328 =>
  bW (DL_at N v1 x328 v3 f) fun x329 f330 =>
  (xsI L xs (v4 + (1 : Int32))).bind fun x332 =>
  bW (DX10_at N v2 x332 f330) fun x333 f334 =>
  (DX10_thrown N v2 f334).bind fun x336 =>
  if x336 = x329 then
    if x329 = 0 then
      (aL f334 v3 (0 : Int32)).bind fun x339 =>
      if x339 = ((x333).toInt64) then
        kk v1 v2 v3 (v4 + 6) f334 (c + 1) (z + 6)
      else
        some ((0 : Int32), f334)
    else
      kk v1 v2 v3 (v4 + 6) f334 (c + 1) (z + 6)
  else
    some ((0 : Int32), f334)

set_option maxRecDepth 20000 in
theorem tL_c17 {l : Launch} {g : GT} (N b L : Nat) (xs : Nat → Int32) (kk : Nat → Nat → Nat → Int32 → HF → Nat → Nat → Option (Int32 × HF)) {r : Int32 × HF} (hkk : ∀ (w1 : Nat) (w2 : Nat) (w3 : Nat) (w4 : Int32) (f : HF) (c z : Nat), kk w1 w2 w3 w4 f c z = some r → V l g (Scr g b L xs) (RL, cL_law, 7, (some .boolean), [], "law") 16 (.inl (some (.int r.1)), r.2, none, 600384, 7289834) 23 [(0, .ref b), (1, .ref w1), (2, .ref w2), (3, .ref w3), (4, .int w4)] [] f none c z) (v1 : Nat) (v2 : Nat) (v3 : Nat) (v4 : Int32) (f : HF) (c z : Nat) (hg : c + 1 ≤ 600384 ∧ z + 6 ≤ 7289834) (h : DL_c17 N L xs kk v1 v2 v3 v4 f c z = some r) : V l g (Scr g b L xs) (RL, cL_law, 7, (some .boolean), [], "law") 16 (.inl (some (.int r.1)), r.2, none, 600384, 7289834) 1242 [(0, .ref b), (1, .ref v1), (2, .ref v2), (3, .ref v3), (4, .int v4)] [] f none c z := by
  unfold DL_c17 at h
  refine v_aload_n dL_law_1242 rfl rfl ?_
  refine v_aload_n dL_law_1243 rfl rfl ?_
  refine v_iload dL_law_1244 rfl ?_
  refine v_iconst (v := 1) dL_law_1246 (by decide) ?_
  refine v_iadd dL_law_1247 ?_
  obtain ⟨x328, hx328, h⟩ := ob_some h
  refine v_sld dL_law_1248 hx328 ?_
  refine v_aload_n dL_law_1249 rfl rfl ?_
  obtain ⟨x329, f330, hx331, h⟩ := bW_some h
  have ehx331 := tL_at (l := l) (g := g) (sz := none) N v1 x328 v3 f hx331
  refine v_gSX dL_law_1250 ml_L_152 ok_L_at ehx331 (by decide) rfl (rest := []) rfl (Nat.le_of_ble_eq_true rfl) ⟨by show _ ≤ 600384; omega, by show _ ≤ 7289834; omega⟩ ?_
  refine v_istore (ls1 := [(5, .int x329), (0, .ref b), (1, .ref v1), (2, .ref v2), (3, .ref v3), (4, .int v4)]) dL_law_1253 (by decide) rfl ?_
  refine v_aload_n dL_law_1255 rfl rfl ?_
  refine v_aload_n dL_law_1256 rfl rfl ?_
  refine v_iload dL_law_1257 rfl ?_
  refine v_iconst (v := 1) dL_law_1259 (by decide) ?_
  refine v_iadd dL_law_1260 ?_
  obtain ⟨x332, hx332, h⟩ := ob_some h
  refine v_sld dL_law_1261 hx332 ?_
  obtain ⟨x333, f334, hx335, h⟩ := bW_some h
  have ehx335 := tX10_at (l := l) (g := g) (sz := none) N v2 x332 f330 hx335
  refine v_gVI dL_law_1262 ml_L_154 ok_X10_at ehx335 (kX10_at N v2 x332 f330 hx335) rfl (by decide) rfl (rest := []) rfl (Nat.le_of_ble_eq_true rfl) ⟨by show _ ≤ 600384; omega, by show _ ≤ 7289834; omega⟩ ?_
  refine v_istore (ls1 := [(6, .int x333), (5, .int x329), (0, .ref b), (1, .ref v1), (2, .ref v2), (3, .ref v3), (4, .int v4)]) dL_law_1265 (by decide) rfl ?_
  refine v_aload_n dL_law_1267 rfl rfl ?_
  obtain ⟨x336, hx338, h⟩ := ob_some h
  have ehx338 := tX10_thrown (l := l) (g := g) (sz := none) N v2 f334 hx338
  refine v_gVI dL_law_1268 ml_L_91 ok_X10_thrown ehx338 (kX10_thrown N v2 f334 hx338) rfl (by decide) rfl (rest := []) rfl (Nat.le_of_ble_eq_true rfl) ⟨by show _ ≤ 600384; omega, by show _ ≤ 7289834; omega⟩ ?_
  refine v_iload dL_law_1271 rfl ?_
  refine v_icmp_eq (tgt := 1278) dL_law_1273 (by decide) (fun c342 => ?_) (fun c342 => ?_)
  · replace h := ip_ c342 h
    refine v_iload dL_law_1278 rfl ?_
    refine v_if_ne (tgt := 1295) dL_law_1280 (by decide) (fun c341 => ?_) (fun c341 => ?_)
    · replace h := in_ c341 h
      refine v_goto (tgt := 1438) dL_law_1295 (by decide) ?_
      refine v_iinc (v := (v4 + 6)) (ls1 := [(4, .int (v4 + 6)), (6, .int x333), (5, .int x329), (0, .ref b), (1, .ref v1), (2, .ref v2), (3, .ref v3)]) dL_law_1438 rfl rfl (by decide) rfl ?_
      refine v_goto (tgt := 23) dL_law_1441 (by decide) ?_
      exact v_sub (vs_c rfl (vs_c rfl (vs_c rfl (vs_c rfl (vs_c rfl vs_n))))) (v_wide (by omega) (by omega) (hkk v1 v2 v3 (v4 + 6) f334 (c + 1) (z + 6) h))
    · replace h := ip_ c341 h
      refine v_aload_n dL_law_1283 rfl rfl ?_
      refine v_iconst (v := 0) dL_law_1284 (by decide) ?_
      obtain ⟨x339, hx339, h⟩ := ob_some h
      refine v_lald dL_law_1285 hx339 ?_
      refine v_iload dL_law_1286 rfl ?_
      refine v_i2l dL_law_1288 ?_
      refine v_lcmp_eq (tgt := 1295) dL_law_1289 dL_law_1290 (by decide) (fun c340 => ?_) (fun c340 => ?_)
      · replace h := ip_ c340 h
        refine v_goto (tgt := 1438) dL_law_1295 (by decide) ?_
        refine v_iinc (v := (v4 + 6)) (ls1 := [(4, .int (v4 + 6)), (6, .int x333), (5, .int x329), (0, .ref b), (1, .ref v1), (2, .ref v2), (3, .ref v3)]) dL_law_1438 rfl rfl (by decide) rfl ?_
        refine v_goto (tgt := 23) dL_law_1441 (by decide) ?_
        exact v_sub (vs_c rfl (vs_c rfl (vs_c rfl (vs_c rfl (vs_c rfl vs_n))))) (v_wide (by omega) (by omega) (hkk v1 v2 v3 (v4 + 6) f334 (c + 1) (z + 6) h))
      · replace h := in_ c340 h
        refine v_iconst (v := 0) dL_law_1293 (by decide) ?_
        obtain rfl := Option.some.inj h
        exact v_zretW dL_law_1294 rfl (Or.inl rfl) rfl (by omega) (by omega)
  · replace h := in_ c342 h
    refine v_iconst (v := 0) dL_law_1276 (by decide) ?_
    obtain rfl := Option.some.inj h
    exact v_zretW dL_law_1277 rfl (Or.inl rfl) rfl (by omega) (by omega)

def DL_c18 (N L : Nat) (xs : Nat → Int32) (kk : Nat → Nat → Nat → Int32 → HF → Nat → Nat → Option (Int32 × HF)) (v1 : Nat) (v2 : Nat) (v3 : Nat) (v4 : Int32) (f : HF) (c z : Nat) : Option (Int32 × HF) :=
  (xsI L xs (v4 + (1 : Int32))).bind fun x344 =>
  bW (DL_read N v1 x344 v3 f) fun x345 f346 =>
  (xsI L xs (v4 + (1 : Int32))).bind fun x348 =>
  bW (DX10_read N v2 x348 f346) fun x349 f350 =>
  (DX10_thrown N v2 f350).bind fun x352 =>
  if x352 = x345 then
    if x345 = 0 then
      (aL f350 v3 (0 : Int32)).bind fun x355 =>
      if x355 = ((x349).toInt64) then
        kk v1 v2 v3 (v4 + 6) f350 (c + 1) (z + 6)
      else
        some ((0 : Int32), f350)
    else
      kk v1 v2 v3 (v4 + 6) f350 (c + 1) (z + 6)
  else
    some ((0 : Int32), f350)

set_option maxRecDepth 20000 in
theorem tL_c18 {l : Launch} {g : GT} (N b L : Nat) (xs : Nat → Int32) (kk : Nat → Nat → Nat → Int32 → HF → Nat → Nat → Option (Int32 × HF)) {r : Int32 × HF} (hkk : ∀ (w1 : Nat) (w2 : Nat) (w3 : Nat) (w4 : Int32) (f : HF) (c z : Nat), kk w1 w2 w3 w4 f c z = some r → V l g (Scr g b L xs) (RL, cL_law, 7, (some .boolean), [], "law") 16 (.inl (some (.int r.1)), r.2, none, 600384, 7289834) 23 [(0, .ref b), (1, .ref w1), (2, .ref w2), (3, .ref w3), (4, .int w4)] [] f none c z) (v1 : Nat) (v2 : Nat) (v3 : Nat) (v4 : Int32) (f : HF) (c z : Nat) (hg : c + 1 ≤ 600384 ∧ z + 6 ≤ 7289834) (h : DL_c18 N L xs kk v1 v2 v3 v4 f c z = some r) : V l g (Scr g b L xs) (RL, cL_law, 7, (some .boolean), [], "law") 16 (.inl (some (.int r.1)), r.2, none, 600384, 7289834) 1298 [(0, .ref b), (1, .ref v1), (2, .ref v2), (3, .ref v3), (4, .int v4)] [] f none c z := by
  unfold DL_c18 at h
  refine v_aload_n dL_law_1298 rfl rfl ?_
  refine v_aload_n dL_law_1299 rfl rfl ?_
  refine v_iload dL_law_1300 rfl ?_
  refine v_iconst (v := 1) dL_law_1302 (by decide) ?_
  refine v_iadd dL_law_1303 ?_
  obtain ⟨x344, hx344, h⟩ := ob_some h
  refine v_sld dL_law_1304 hx344 ?_
  refine v_aload_n dL_law_1305 rfl rfl ?_
  obtain ⟨x345, f346, hx347, h⟩ := bW_some h
  have ehx347 := tL_read (l := l) (g := g) (sz := none) N v1 x344 v3 f hx347
  refine v_gSX dL_law_1306 ml_L_155 ok_L_read ehx347 (by decide) rfl (rest := []) rfl (Nat.le_of_ble_eq_true rfl) ⟨by show _ ≤ 600384; omega, by show _ ≤ 7289834; omega⟩ ?_
  refine v_istore (ls1 := [(5, .int x345), (0, .ref b), (1, .ref v1), (2, .ref v2), (3, .ref v3), (4, .int v4)]) dL_law_1309 (by decide) rfl ?_
  refine v_aload_n dL_law_1311 rfl rfl ?_
  refine v_aload_n dL_law_1312 rfl rfl ?_
  refine v_iload dL_law_1313 rfl ?_
  refine v_iconst (v := 1) dL_law_1315 (by decide) ?_
  refine v_iadd dL_law_1316 ?_
  obtain ⟨x348, hx348, h⟩ := ob_some h
  refine v_sld dL_law_1317 hx348 ?_
  obtain ⟨x349, f350, hx351, h⟩ := bW_some h
  have ehx351 := tX10_read (l := l) (g := g) (sz := none) N v2 x348 f346 hx351
  refine v_gVI dL_law_1318 ml_L_157 ok_X10_read ehx351 (kX10_read N v2 x348 f346 hx351) rfl (by decide) rfl (rest := []) rfl (Nat.le_of_ble_eq_true rfl) ⟨by show _ ≤ 600384; omega, by show _ ≤ 7289834; omega⟩ ?_
  refine v_istore (ls1 := [(6, .int x349), (5, .int x345), (0, .ref b), (1, .ref v1), (2, .ref v2), (3, .ref v3), (4, .int v4)]) dL_law_1321 (by decide) rfl ?_
  refine v_aload_n dL_law_1323 rfl rfl ?_
  obtain ⟨x352, hx354, h⟩ := ob_some h
  have ehx354 := tX10_thrown (l := l) (g := g) (sz := none) N v2 f350 hx354
  refine v_gVI dL_law_1324 ml_L_91 ok_X10_thrown ehx354 (kX10_thrown N v2 f350 hx354) rfl (by decide) rfl (rest := []) rfl (Nat.le_of_ble_eq_true rfl) ⟨by show _ ≤ 600384; omega, by show _ ≤ 7289834; omega⟩ ?_
  refine v_iload dL_law_1327 rfl ?_
  refine v_icmp_eq (tgt := 1334) dL_law_1329 (by decide) (fun c358 => ?_) (fun c358 => ?_)
  · replace h := ip_ c358 h
    refine v_iload dL_law_1334 rfl ?_
    refine v_if_ne (tgt := 1351) dL_law_1336 (by decide) (fun c357 => ?_) (fun c357 => ?_)
    · replace h := in_ c357 h
      refine v_goto (tgt := 1438) dL_law_1351 (by decide) ?_
      refine v_iinc (v := (v4 + 6)) (ls1 := [(4, .int (v4 + 6)), (6, .int x349), (5, .int x345), (0, .ref b), (1, .ref v1), (2, .ref v2), (3, .ref v3)]) dL_law_1438 rfl rfl (by decide) rfl ?_
      refine v_goto (tgt := 23) dL_law_1441 (by decide) ?_
      exact v_sub (vs_c rfl (vs_c rfl (vs_c rfl (vs_c rfl (vs_c rfl vs_n))))) (v_wide (by omega) (by omega) (hkk v1 v2 v3 (v4 + 6) f350 (c + 1) (z + 6) h))
    · replace h := ip_ c357 h
      refine v_aload_n dL_law_1339 rfl rfl ?_
      refine v_iconst (v := 0) dL_law_1340 (by decide) ?_
      obtain ⟨x355, hx355, h⟩ := ob_some h
      refine v_lald dL_law_1341 hx355 ?_
      refine v_iload dL_law_1342 rfl ?_
      refine v_i2l dL_law_1344 ?_
      refine v_lcmp_eq (tgt := 1351) dL_law_1345 dL_law_1346 (by decide) (fun c356 => ?_) (fun c356 => ?_)
      · replace h := ip_ c356 h
        refine v_goto (tgt := 1438) dL_law_1351 (by decide) ?_
        refine v_iinc (v := (v4 + 6)) (ls1 := [(4, .int (v4 + 6)), (6, .int x349), (5, .int x345), (0, .ref b), (1, .ref v1), (2, .ref v2), (3, .ref v3)]) dL_law_1438 rfl rfl (by decide) rfl ?_
        refine v_goto (tgt := 23) dL_law_1441 (by decide) ?_
        exact v_sub (vs_c rfl (vs_c rfl (vs_c rfl (vs_c rfl (vs_c rfl vs_n))))) (v_wide (by omega) (by omega) (hkk v1 v2 v3 (v4 + 6) f350 (c + 1) (z + 6) h))
      · replace h := in_ c356 h
        refine v_iconst (v := 0) dL_law_1349 (by decide) ?_
        obtain rfl := Option.some.inj h
        exact v_zretW dL_law_1350 rfl (Or.inl rfl) rfl (by omega) (by omega)
  · replace h := in_ c358 h
    refine v_iconst (v := 0) dL_law_1332 (by decide) ?_
    obtain rfl := Option.some.inj h
    exact v_zretW dL_law_1333 rfl (Or.inl rfl) rfl (by omega) (by omega)

def DL_c19 (N L : Nat) (xs : Nat → Int32) (kk : Nat → Nat → Nat → Int32 → HF → Nat → Nat → Option (Int32 × HF)) (v1 : Nat) (v2 : Nat) (v3 : Nat) (v4 : Int32) (f : HF) (c z : Nat) : Option (Int32 × HF) :=
  (xsI L xs (v4 + (1 : Int32))).bind fun x360 =>
  (xsI L xs (v4 + (2 : Int32))).bind fun x361 =>
  if x361 = 0 then
    bW (DL_lock N v1 x360 (0 : Int32) v3 f) fun x362 f363 =>
    (xsI L xs (v4 + (1 : Int32))).bind fun x365 =>
    (xsI L xs (v4 + (2 : Int32))).bind fun x366 =>
    if x366 = 0 then
      bW (DX10_lock N v2 x365 (0 : Int32) f363) fun x367 f368 =>
      (DX10_thrown N v2 f368).bind fun x370 =>
      if x370 = x362 then
        if x362 = 0 then
          (aL f368 v3 (0 : Int32)).bind fun x373 =>
          if x373 = ((x367).toInt64) then
            kk v1 v2 v3 (v4 + 6) f368 (c + 1) (z + 6)
          else
            some ((0 : Int32), f368)
        else
          kk v1 v2 v3 (v4 + 6) f368 (c + 1) (z + 6)
      else
        some ((0 : Int32), f368)
    else
      bW (DX10_lock N v2 x365 (1 : Int32) f363) fun x377 f378 =>
      (DX10_thrown N v2 f378).bind fun x380 =>
      if x380 = x362 then
        if x362 = 0 then
          (aL f378 v3 (0 : Int32)).bind fun x383 =>
          if x383 = ((x377).toInt64) then
            kk v1 v2 v3 (v4 + 6) f378 (c + 1) (z + 6)
          else
            some ((0 : Int32), f378)
        else
          kk v1 v2 v3 (v4 + 6) f378 (c + 1) (z + 6)
      else
        some ((0 : Int32), f378)
  else
    bW (DL_lock N v1 x360 (1 : Int32) v3 f) fun x388 f389 =>
    (xsI L xs (v4 + (1 : Int32))).bind fun x391 =>
    (xsI L xs (v4 + (2 : Int32))).bind fun x392 =>
    if x392 = 0 then
      bW (DX10_lock N v2 x391 (0 : Int32) f389) fun x393 f394 =>
      (DX10_thrown N v2 f394).bind fun x396 =>
      if x396 = x388 then
        if x388 = 0 then
          (aL f394 v3 (0 : Int32)).bind fun x399 =>
          if x399 = ((x393).toInt64) then
            kk v1 v2 v3 (v4 + 6) f394 (c + 1) (z + 6)
          else
            some ((0 : Int32), f394)
        else
          kk v1 v2 v3 (v4 + 6) f394 (c + 1) (z + 6)
      else
        some ((0 : Int32), f394)
    else
      bW (DX10_lock N v2 x391 (1 : Int32) f389) fun x403 f404 =>
      (DX10_thrown N v2 f404).bind fun x406 =>
      if x406 = x388 then
        if x388 = 0 then
          (aL f404 v3 (0 : Int32)).bind fun x409 =>
          if x409 = ((x403).toInt64) then
            kk v1 v2 v3 (v4 + 6) f404 (c + 1) (z + 6)
          else
            some ((0 : Int32), f404)
        else
          kk v1 v2 v3 (v4 + 6) f404 (c + 1) (z + 6)
      else
        some ((0 : Int32), f404)

set_option maxRecDepth 20000 in
theorem tL_c19 {l : Launch} {g : GT} (N b L : Nat) (xs : Nat → Int32) (kk : Nat → Nat → Nat → Int32 → HF → Nat → Nat → Option (Int32 × HF)) {r : Int32 × HF} (hkk : ∀ (w1 : Nat) (w2 : Nat) (w3 : Nat) (w4 : Int32) (f : HF) (c z : Nat), kk w1 w2 w3 w4 f c z = some r → V l g (Scr g b L xs) (RL, cL_law, 7, (some .boolean), [], "law") 16 (.inl (some (.int r.1)), r.2, none, 600384, 7289834) 23 [(0, .ref b), (1, .ref w1), (2, .ref w2), (3, .ref w3), (4, .int w4)] [] f none c z) (v1 : Nat) (v2 : Nat) (v3 : Nat) (v4 : Int32) (f : HF) (c z : Nat) (hg : c + 1 ≤ 600384 ∧ z + 6 ≤ 7289834) (h : DL_c19 N L xs kk v1 v2 v3 v4 f c z = some r) : V l g (Scr g b L xs) (RL, cL_law, 7, (some .boolean), [], "law") 16 (.inl (some (.int r.1)), r.2, none, 600384, 7289834) 1354 [(0, .ref b), (1, .ref v1), (2, .ref v2), (3, .ref v3), (4, .int v4)] [] f none c z := by
  unfold DL_c19 at h
  refine v_aload_n dL_law_1354 rfl rfl ?_
  refine v_aload_n dL_law_1355 rfl rfl ?_
  refine v_iload dL_law_1356 rfl ?_
  refine v_iconst (v := 1) dL_law_1358 (by decide) ?_
  refine v_iadd dL_law_1359 ?_
  obtain ⟨x360, hx360, h⟩ := ob_some h
  refine v_sld dL_law_1360 hx360 ?_
  refine v_aload_n dL_law_1361 rfl rfl ?_
  refine v_iload dL_law_1362 rfl ?_
  refine v_iconst (v := 2) dL_law_1364 (by decide) ?_
  refine v_iadd dL_law_1365 ?_
  obtain ⟨x361, hx361, h⟩ := ob_some h
  refine v_sld dL_law_1366 hx361 ?_
  refine v_if_eq (tgt := 1374) dL_law_1367 (by decide) (fun c414 => ?_) (fun c414 => ?_)
  · replace h := ip_ c414 h
    refine v_iconst (v := 0) dL_law_1374 (by decide) ?_
    refine v_aload_n dL_law_1375 rfl rfl ?_
    obtain ⟨x362, f363, hx364, h⟩ := bW_some h
    have ehx364 := tL_lock (l := l) (g := g) (sz := none) N v1 x360 (0 : Int32) v3 f hx364
    refine v_gSX dL_law_1376 ml_L_158 ok_L_lock ehx364 (by decide) rfl (rest := []) rfl (Nat.le_of_ble_eq_true rfl) ⟨by show _ ≤ 600384; omega, by show _ ≤ 7289834; omega⟩ ?_
    refine v_istore (ls1 := [(5, .int x362), (0, .ref b), (1, .ref v1), (2, .ref v2), (3, .ref v3), (4, .int v4)]) dL_law_1379 (by decide) rfl ?_
    refine v_aload_n dL_law_1381 rfl rfl ?_
    refine v_aload_n dL_law_1382 rfl rfl ?_
    refine v_iload dL_law_1383 rfl ?_
    refine v_iconst (v := 1) dL_law_1385 (by decide) ?_
    refine v_iadd dL_law_1386 ?_
    obtain ⟨x365, hx365, h⟩ := ob_some h
    refine v_sld dL_law_1387 hx365 ?_
    refine v_aload_n dL_law_1388 rfl rfl ?_
    refine v_iload dL_law_1389 rfl ?_
    refine v_iconst (v := 2) dL_law_1391 (by decide) ?_
    refine v_iadd dL_law_1392 ?_
    obtain ⟨x366, hx366, h⟩ := ob_some h
    refine v_sld dL_law_1393 hx366 ?_
    refine v_if_eq (tgt := 1401) dL_law_1394 (by decide) (fun c387 => ?_) (fun c387 => ?_)
    · replace h := ip_ c387 h
      refine v_iconst (v := 0) dL_law_1401 (by decide) ?_
      obtain ⟨x367, f368, hx369, h⟩ := bW_some h
      have ehx369 := tX10_lock (l := l) (g := g) (sz := none) N v2 x365 (0 : Int32) f363 hx369
      refine v_gVI dL_law_1402 ml_L_160 ok_X10_lock ehx369 (kX10_lock N v2 x365 (0 : Int32) f363 hx369) rfl (by decide) rfl (rest := []) rfl (Nat.le_of_ble_eq_true rfl) ⟨by show _ ≤ 600384; omega, by show _ ≤ 7289834; omega⟩ ?_
      refine v_istore (ls1 := [(6, .int x367), (5, .int x362), (0, .ref b), (1, .ref v1), (2, .ref v2), (3, .ref v3), (4, .int v4)]) dL_law_1405 (by decide) rfl ?_
      refine v_aload_n dL_law_1407 rfl rfl ?_
      obtain ⟨x370, hx372, h⟩ := ob_some h
      have ehx372 := tX10_thrown (l := l) (g := g) (sz := none) N v2 f368 hx372
      refine v_gVI dL_law_1408 ml_L_91 ok_X10_thrown ehx372 (kX10_thrown N v2 f368 hx372) rfl (by decide) rfl (rest := []) rfl (Nat.le_of_ble_eq_true rfl) ⟨by show _ ≤ 600384; omega, by show _ ≤ 7289834; omega⟩ ?_
      refine v_iload dL_law_1411 rfl ?_
      refine v_icmp_eq (tgt := 1418) dL_law_1413 (by decide) (fun c376 => ?_) (fun c376 => ?_)
      · replace h := ip_ c376 h
        refine v_iload dL_law_1418 rfl ?_
        refine v_if_ne (tgt := 1435) dL_law_1420 (by decide) (fun c375 => ?_) (fun c375 => ?_)
        · replace h := in_ c375 h
          refine v_goto (tgt := 1438) dL_law_1435 (by decide) ?_
          refine v_iinc (v := (v4 + 6)) (ls1 := [(4, .int (v4 + 6)), (6, .int x367), (5, .int x362), (0, .ref b), (1, .ref v1), (2, .ref v2), (3, .ref v3)]) dL_law_1438 rfl rfl (by decide) rfl ?_
          refine v_goto (tgt := 23) dL_law_1441 (by decide) ?_
          exact v_sub (vs_c rfl (vs_c rfl (vs_c rfl (vs_c rfl (vs_c rfl vs_n))))) (v_wide (by omega) (by omega) (hkk v1 v2 v3 (v4 + 6) f368 (c + 1) (z + 6) h))
        · replace h := ip_ c375 h
          refine v_aload_n dL_law_1423 rfl rfl ?_
          refine v_iconst (v := 0) dL_law_1424 (by decide) ?_
          obtain ⟨x373, hx373, h⟩ := ob_some h
          refine v_lald dL_law_1425 hx373 ?_
          refine v_iload dL_law_1426 rfl ?_
          refine v_i2l dL_law_1428 ?_
          refine v_lcmp_eq (tgt := 1435) dL_law_1429 dL_law_1430 (by decide) (fun c374 => ?_) (fun c374 => ?_)
          · replace h := ip_ c374 h
            refine v_goto (tgt := 1438) dL_law_1435 (by decide) ?_
            refine v_iinc (v := (v4 + 6)) (ls1 := [(4, .int (v4 + 6)), (6, .int x367), (5, .int x362), (0, .ref b), (1, .ref v1), (2, .ref v2), (3, .ref v3)]) dL_law_1438 rfl rfl (by decide) rfl ?_
            refine v_goto (tgt := 23) dL_law_1441 (by decide) ?_
            exact v_sub (vs_c rfl (vs_c rfl (vs_c rfl (vs_c rfl (vs_c rfl vs_n))))) (v_wide (by omega) (by omega) (hkk v1 v2 v3 (v4 + 6) f368 (c + 1) (z + 6) h))
          · replace h := in_ c374 h
            refine v_iconst (v := 0) dL_law_1433 (by decide) ?_
            obtain rfl := Option.some.inj h
            exact v_zretW dL_law_1434 rfl (Or.inl rfl) rfl (by omega) (by omega)
      · replace h := in_ c376 h
        refine v_iconst (v := 0) dL_law_1416 (by decide) ?_
        obtain rfl := Option.some.inj h
        exact v_zretW dL_law_1417 rfl (Or.inl rfl) rfl (by omega) (by omega)
    · replace h := in_ c387 h
      refine v_iconst (v := 1) dL_law_1397 (by decide) ?_
      refine v_goto (tgt := 1402) dL_law_1398 (by decide) ?_
      obtain ⟨x377, f378, hx379, h⟩ := bW_some h
      have ehx379 := tX10_lock (l := l) (g := g) (sz := none) N v2 x365 (1 : Int32) f363 hx379
      refine v_gVI dL_law_1402 ml_L_160 ok_X10_lock ehx379 (kX10_lock N v2 x365 (1 : Int32) f363 hx379) rfl (by decide) rfl (rest := []) rfl (Nat.le_of_ble_eq_true rfl) ⟨by show _ ≤ 600384; omega, by show _ ≤ 7289834; omega⟩ ?_
      refine v_istore (ls1 := [(6, .int x377), (5, .int x362), (0, .ref b), (1, .ref v1), (2, .ref v2), (3, .ref v3), (4, .int v4)]) dL_law_1405 (by decide) rfl ?_
      refine v_aload_n dL_law_1407 rfl rfl ?_
      obtain ⟨x380, hx382, h⟩ := ob_some h
      have ehx382 := tX10_thrown (l := l) (g := g) (sz := none) N v2 f378 hx382
      refine v_gVI dL_law_1408 ml_L_91 ok_X10_thrown ehx382 (kX10_thrown N v2 f378 hx382) rfl (by decide) rfl (rest := []) rfl (Nat.le_of_ble_eq_true rfl) ⟨by show _ ≤ 600384; omega, by show _ ≤ 7289834; omega⟩ ?_
      refine v_iload dL_law_1411 rfl ?_
      refine v_icmp_eq (tgt := 1418) dL_law_1413 (by decide) (fun c386 => ?_) (fun c386 => ?_)
      · replace h := ip_ c386 h
        refine v_iload dL_law_1418 rfl ?_
        refine v_if_ne (tgt := 1435) dL_law_1420 (by decide) (fun c385 => ?_) (fun c385 => ?_)
        · replace h := in_ c385 h
          refine v_goto (tgt := 1438) dL_law_1435 (by decide) ?_
          refine v_iinc (v := (v4 + 6)) (ls1 := [(4, .int (v4 + 6)), (6, .int x377), (5, .int x362), (0, .ref b), (1, .ref v1), (2, .ref v2), (3, .ref v3)]) dL_law_1438 rfl rfl (by decide) rfl ?_
          refine v_goto (tgt := 23) dL_law_1441 (by decide) ?_
          exact v_sub (vs_c rfl (vs_c rfl (vs_c rfl (vs_c rfl (vs_c rfl vs_n))))) (v_wide (by omega) (by omega) (hkk v1 v2 v3 (v4 + 6) f378 (c + 1) (z + 6) h))
        · replace h := ip_ c385 h
          refine v_aload_n dL_law_1423 rfl rfl ?_
          refine v_iconst (v := 0) dL_law_1424 (by decide) ?_
          obtain ⟨x383, hx383, h⟩ := ob_some h
          refine v_lald dL_law_1425 hx383 ?_
          refine v_iload dL_law_1426 rfl ?_
          refine v_i2l dL_law_1428 ?_
          refine v_lcmp_eq (tgt := 1435) dL_law_1429 dL_law_1430 (by decide) (fun c384 => ?_) (fun c384 => ?_)
          · replace h := ip_ c384 h
            refine v_goto (tgt := 1438) dL_law_1435 (by decide) ?_
            refine v_iinc (v := (v4 + 6)) (ls1 := [(4, .int (v4 + 6)), (6, .int x377), (5, .int x362), (0, .ref b), (1, .ref v1), (2, .ref v2), (3, .ref v3)]) dL_law_1438 rfl rfl (by decide) rfl ?_
            refine v_goto (tgt := 23) dL_law_1441 (by decide) ?_
            exact v_sub (vs_c rfl (vs_c rfl (vs_c rfl (vs_c rfl (vs_c rfl vs_n))))) (v_wide (by omega) (by omega) (hkk v1 v2 v3 (v4 + 6) f378 (c + 1) (z + 6) h))
          · replace h := in_ c384 h
            refine v_iconst (v := 0) dL_law_1433 (by decide) ?_
            obtain rfl := Option.some.inj h
            exact v_zretW dL_law_1434 rfl (Or.inl rfl) rfl (by omega) (by omega)
      · replace h := in_ c386 h
        refine v_iconst (v := 0) dL_law_1416 (by decide) ?_
        obtain rfl := Option.some.inj h
        exact v_zretW dL_law_1417 rfl (Or.inl rfl) rfl (by omega) (by omega)
  · replace h := in_ c414 h
    refine v_iconst (v := 1) dL_law_1370 (by decide) ?_
    refine v_goto (tgt := 1375) dL_law_1371 (by decide) ?_
    refine v_aload_n dL_law_1375 rfl rfl ?_
    obtain ⟨x388, f389, hx390, h⟩ := bW_some h
    have ehx390 := tL_lock (l := l) (g := g) (sz := none) N v1 x360 (1 : Int32) v3 f hx390
    refine v_gSX dL_law_1376 ml_L_158 ok_L_lock ehx390 (by decide) rfl (rest := []) rfl (Nat.le_of_ble_eq_true rfl) ⟨by show _ ≤ 600384; omega, by show _ ≤ 7289834; omega⟩ ?_
    refine v_istore (ls1 := [(5, .int x388), (0, .ref b), (1, .ref v1), (2, .ref v2), (3, .ref v3), (4, .int v4)]) dL_law_1379 (by decide) rfl ?_
    refine v_aload_n dL_law_1381 rfl rfl ?_
    refine v_aload_n dL_law_1382 rfl rfl ?_
    refine v_iload dL_law_1383 rfl ?_
    refine v_iconst (v := 1) dL_law_1385 (by decide) ?_
    refine v_iadd dL_law_1386 ?_
    obtain ⟨x391, hx391, h⟩ := ob_some h
    refine v_sld dL_law_1387 hx391 ?_
    refine v_aload_n dL_law_1388 rfl rfl ?_
    refine v_iload dL_law_1389 rfl ?_
    refine v_iconst (v := 2) dL_law_1391 (by decide) ?_
    refine v_iadd dL_law_1392 ?_
    obtain ⟨x392, hx392, h⟩ := ob_some h
    refine v_sld dL_law_1393 hx392 ?_
    refine v_if_eq (tgt := 1401) dL_law_1394 (by decide) (fun c413 => ?_) (fun c413 => ?_)
    · replace h := ip_ c413 h
      refine v_iconst (v := 0) dL_law_1401 (by decide) ?_
      obtain ⟨x393, f394, hx395, h⟩ := bW_some h
      have ehx395 := tX10_lock (l := l) (g := g) (sz := none) N v2 x391 (0 : Int32) f389 hx395
      refine v_gVI dL_law_1402 ml_L_160 ok_X10_lock ehx395 (kX10_lock N v2 x391 (0 : Int32) f389 hx395) rfl (by decide) rfl (rest := []) rfl (Nat.le_of_ble_eq_true rfl) ⟨by show _ ≤ 600384; omega, by show _ ≤ 7289834; omega⟩ ?_
      refine v_istore (ls1 := [(6, .int x393), (5, .int x388), (0, .ref b), (1, .ref v1), (2, .ref v2), (3, .ref v3), (4, .int v4)]) dL_law_1405 (by decide) rfl ?_
      refine v_aload_n dL_law_1407 rfl rfl ?_
      obtain ⟨x396, hx398, h⟩ := ob_some h
      have ehx398 := tX10_thrown (l := l) (g := g) (sz := none) N v2 f394 hx398
      refine v_gVI dL_law_1408 ml_L_91 ok_X10_thrown ehx398 (kX10_thrown N v2 f394 hx398) rfl (by decide) rfl (rest := []) rfl (Nat.le_of_ble_eq_true rfl) ⟨by show _ ≤ 600384; omega, by show _ ≤ 7289834; omega⟩ ?_
      refine v_iload dL_law_1411 rfl ?_
      refine v_icmp_eq (tgt := 1418) dL_law_1413 (by decide) (fun c402 => ?_) (fun c402 => ?_)
      · replace h := ip_ c402 h
        refine v_iload dL_law_1418 rfl ?_
        refine v_if_ne (tgt := 1435) dL_law_1420 (by decide) (fun c401 => ?_) (fun c401 => ?_)
        · replace h := in_ c401 h
          refine v_goto (tgt := 1438) dL_law_1435 (by decide) ?_
          refine v_iinc (v := (v4 + 6)) (ls1 := [(4, .int (v4 + 6)), (6, .int x393), (5, .int x388), (0, .ref b), (1, .ref v1), (2, .ref v2), (3, .ref v3)]) dL_law_1438 rfl rfl (by decide) rfl ?_
          refine v_goto (tgt := 23) dL_law_1441 (by decide) ?_
          exact v_sub (vs_c rfl (vs_c rfl (vs_c rfl (vs_c rfl (vs_c rfl vs_n))))) (v_wide (by omega) (by omega) (hkk v1 v2 v3 (v4 + 6) f394 (c + 1) (z + 6) h))
        · replace h := ip_ c401 h
          refine v_aload_n dL_law_1423 rfl rfl ?_
          refine v_iconst (v := 0) dL_law_1424 (by decide) ?_
          obtain ⟨x399, hx399, h⟩ := ob_some h
          refine v_lald dL_law_1425 hx399 ?_
          refine v_iload dL_law_1426 rfl ?_
          refine v_i2l dL_law_1428 ?_
          refine v_lcmp_eq (tgt := 1435) dL_law_1429 dL_law_1430 (by decide) (fun c400 => ?_) (fun c400 => ?_)
          · replace h := ip_ c400 h
            refine v_goto (tgt := 1438) dL_law_1435 (by decide) ?_
            refine v_iinc (v := (v4 + 6)) (ls1 := [(4, .int (v4 + 6)), (6, .int x393), (5, .int x388), (0, .ref b), (1, .ref v1), (2, .ref v2), (3, .ref v3)]) dL_law_1438 rfl rfl (by decide) rfl ?_
            refine v_goto (tgt := 23) dL_law_1441 (by decide) ?_
            exact v_sub (vs_c rfl (vs_c rfl (vs_c rfl (vs_c rfl (vs_c rfl vs_n))))) (v_wide (by omega) (by omega) (hkk v1 v2 v3 (v4 + 6) f394 (c + 1) (z + 6) h))
          · replace h := in_ c400 h
            refine v_iconst (v := 0) dL_law_1433 (by decide) ?_
            obtain rfl := Option.some.inj h
            exact v_zretW dL_law_1434 rfl (Or.inl rfl) rfl (by omega) (by omega)
      · replace h := in_ c402 h
        refine v_iconst (v := 0) dL_law_1416 (by decide) ?_
        obtain rfl := Option.some.inj h
        exact v_zretW dL_law_1417 rfl (Or.inl rfl) rfl (by omega) (by omega)
    · replace h := in_ c413 h
      refine v_iconst (v := 1) dL_law_1397 (by decide) ?_
      refine v_goto (tgt := 1402) dL_law_1398 (by decide) ?_
      obtain ⟨x403, f404, hx405, h⟩ := bW_some h
      have ehx405 := tX10_lock (l := l) (g := g) (sz := none) N v2 x391 (1 : Int32) f389 hx405
      refine v_gVI dL_law_1402 ml_L_160 ok_X10_lock ehx405 (kX10_lock N v2 x391 (1 : Int32) f389 hx405) rfl (by decide) rfl (rest := []) rfl (Nat.le_of_ble_eq_true rfl) ⟨by show _ ≤ 600384; omega, by show _ ≤ 7289834; omega⟩ ?_
      refine v_istore (ls1 := [(6, .int x403), (5, .int x388), (0, .ref b), (1, .ref v1), (2, .ref v2), (3, .ref v3), (4, .int v4)]) dL_law_1405 (by decide) rfl ?_
      refine v_aload_n dL_law_1407 rfl rfl ?_
      obtain ⟨x406, hx408, h⟩ := ob_some h
      have ehx408 := tX10_thrown (l := l) (g := g) (sz := none) N v2 f404 hx408
      refine v_gVI dL_law_1408 ml_L_91 ok_X10_thrown ehx408 (kX10_thrown N v2 f404 hx408) rfl (by decide) rfl (rest := []) rfl (Nat.le_of_ble_eq_true rfl) ⟨by show _ ≤ 600384; omega, by show _ ≤ 7289834; omega⟩ ?_
      refine v_iload dL_law_1411 rfl ?_
      refine v_icmp_eq (tgt := 1418) dL_law_1413 (by decide) (fun c412 => ?_) (fun c412 => ?_)
      · replace h := ip_ c412 h
        refine v_iload dL_law_1418 rfl ?_
        refine v_if_ne (tgt := 1435) dL_law_1420 (by decide) (fun c411 => ?_) (fun c411 => ?_)
        · replace h := in_ c411 h
          refine v_goto (tgt := 1438) dL_law_1435 (by decide) ?_
          refine v_iinc (v := (v4 + 6)) (ls1 := [(4, .int (v4 + 6)), (6, .int x403), (5, .int x388), (0, .ref b), (1, .ref v1), (2, .ref v2), (3, .ref v3)]) dL_law_1438 rfl rfl (by decide) rfl ?_
          refine v_goto (tgt := 23) dL_law_1441 (by decide) ?_
          exact v_sub (vs_c rfl (vs_c rfl (vs_c rfl (vs_c rfl (vs_c rfl vs_n))))) (v_wide (by omega) (by omega) (hkk v1 v2 v3 (v4 + 6) f404 (c + 1) (z + 6) h))
        · replace h := ip_ c411 h
          refine v_aload_n dL_law_1423 rfl rfl ?_
          refine v_iconst (v := 0) dL_law_1424 (by decide) ?_
          obtain ⟨x409, hx409, h⟩ := ob_some h
          refine v_lald dL_law_1425 hx409 ?_
          refine v_iload dL_law_1426 rfl ?_
          refine v_i2l dL_law_1428 ?_
          refine v_lcmp_eq (tgt := 1435) dL_law_1429 dL_law_1430 (by decide) (fun c410 => ?_) (fun c410 => ?_)
          · replace h := ip_ c410 h
            refine v_goto (tgt := 1438) dL_law_1435 (by decide) ?_
            refine v_iinc (v := (v4 + 6)) (ls1 := [(4, .int (v4 + 6)), (6, .int x403), (5, .int x388), (0, .ref b), (1, .ref v1), (2, .ref v2), (3, .ref v3)]) dL_law_1438 rfl rfl (by decide) rfl ?_
            refine v_goto (tgt := 23) dL_law_1441 (by decide) ?_
            exact v_sub (vs_c rfl (vs_c rfl (vs_c rfl (vs_c rfl (vs_c rfl vs_n))))) (v_wide (by omega) (by omega) (hkk v1 v2 v3 (v4 + 6) f404 (c + 1) (z + 6) h))
          · replace h := in_ c410 h
            refine v_iconst (v := 0) dL_law_1433 (by decide) ?_
            obtain rfl := Option.some.inj h
            exact v_zretW dL_law_1434 rfl (Or.inl rfl) rfl (by omega) (by omega)
      · replace h := in_ c412 h
        refine v_iconst (v := 0) dL_law_1416 (by decide) ?_
        obtain rfl := Option.some.inj h
        exact v_zretW dL_law_1417 rfl (Or.inl rfl) rfl (by omega) (by omega)

