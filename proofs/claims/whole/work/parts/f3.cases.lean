/-! the law's cases -/
section LWC
variable {p : Program} {l : Launch} {e : Env} {s : State} {m : MethodId} {below : List Frame} {meth : Method} {c : Code} {b Ln : Nat} {xs : Nat → Int32} {D : va_G} {aa : Nat → ClassId} {i : Nat}
theorem lg_self (x : Int64) : lg_cmp x x = 0 := by
  unfold lg_cmp
  rw [if_neg (fun z => Int64.lt_irrefl z), if_pos rfl]
theorem lw_c_voice (C : lw_X l D aa p s m meth c b Ln xs) (hi : i + 6 ≤ Ln) (K : lw_go p l e s m below meth c b D aa 1064 i) : lw_go p l e s m below meth c b D aa 144 i := by
  intro t h H locs ls hinv hR hS hl
  obtain ⟨hW, X, Y, rl, ST, F, G, A, B, hca, hCI, hra, hRI⟩ := hinv
  have C0 := C.1
  have hown : s.vm.findClass RL = some m.cls := C0.2.2.2.2.1
  refine lv_aload_n C0.1 C0.2.1 dL_law_144 rfl (lv_at hl 1 rfl) ?_
  refine lw_ld (k := 1) C hS (lv_at hl 0 rfl) (lv_at hl 3 rfl) (by omega) dL_law_145 dL_law_146 dL_law_147 (by decide) dL_law_148 dL_law_149 ?_
  obtain ⟨t2, Ph, hW2, hJC, hJR⟩ := J_voice hW (xs (i + 1))
  refine lw_callV (st0 := [.int (xs (i + 1)), .ref 0]) (rest := []) (As := [.int (xs (i + 1))]) (ci := 11) C dL_law_150 zc_L_13 zs_X11_voice zz_clX11 (cm_o0 hca) rfl rfl (Nat.le_of_ble_eq_true rfl) (Nat.le_of_ble_eq_true rfl) (Nat.le_of_ble_eq_true rfl) (hJC _ _ _ _ _ _ _ _ _ hca hCI) (Nat.le_refl _) (Nat.le_refl _) hR hS hl.1 (fun r h1 H1 locs1 hq hR1 hS1 => ?_)
  obtain ⟨⟨x, hPh, rfl⟩, X1, Y1, rl1, ST1, hca1, hfr, hCI1⟩ := hq
  have hra1 := rm_at_c hra hfr
  refine lv_aload_n C0.1 C0.2.1 dL_law_153 rfl (lv_at hl 2 rfl) ?_
  refine lw_ld (k := 1) C hS1 (lv_at hl 0 rfl) (lv_at hl 3 rfl) (by omega) dL_law_154 dL_law_155 dL_law_156 (by decide) dL_law_157 dL_law_158 ?_
  refine lw_callV (st0 := [.int (xs (i + 1)), .ref 169, .int x]) (rest := [.int x]) (As := [.int (xs (i + 1))]) (ci := 12) C dL_law_159 zc_L_17 zs_X12_voice zz_cl hra1.1 rfl rfl (Nat.le_of_ble_eq_true rfl) (Nat.le_of_ble_eq_true rfl) (Nat.le_of_ble_eq_true rfl) (hJR x hPh _ _ _ _ _ _ _ _ _ hra1 hRI) (Nat.le_refl _) (Nat.le_refl _) hR1 hS1 hl.1 (fun r h2 H2 locs2 hq hR2 hS2 => ?_)
  obtain ⟨rfl, F2, G2, A2, B2, hra2, hfr2, hRI2⟩ := hq
  have hca2 := cm_at_r hca1 hfr2
  refine lv_icmp_eq C0.1 C0.2.1 (tgt := 1064) dL_law_162 (by decide) (fun _ => ?_) (fun z => absurd rfl z)
  exact K t2 h2 H2 locs2 ls ⟨hW2, X1, Y1, rl1, ST1, F2, G2, A2, B2, hca2, hCI1, hra2, hRI2⟩ hR2 hS2 hl
theorem lw_c_note (C : lw_X l D aa p s m meth c b Ln xs) (hi : i + 6 ≤ Ln) (K : lw_go p l e s m below meth c b D aa 1064 i) : lw_go p l e s m below meth c b D aa 167 i := by
  intro t h H locs ls hinv hR hS hl
  obtain ⟨hW, X, Y, rl, ST, F, G, A, B, hca, hCI, hra, hRI⟩ := hinv
  have C0 := C.1
  have hown : s.vm.findClass RL = some m.cls := C0.2.2.2.2.1
  refine lv_aload_n C0.1 C0.2.1 dL_law_167 rfl (lv_at hl 1 rfl) ?_
  refine lw_ld (k := 1) C hS (lv_at hl 0 rfl) (lv_at hl 3 rfl) (by omega) dL_law_168 dL_law_169 dL_law_170 (by decide) dL_law_171 dL_law_172 ?_
  refine lw_ld (k := 2) C hS (lv_at hl 0 rfl) (lv_at hl 3 rfl) (by omega) dL_law_173 dL_law_174 dL_law_175 (by decide) dL_law_176 dL_law_177 ?_
  refine lw_ld (k := 3) C hS (lv_at hl 0 rfl) (lv_at hl 3 rfl) (by omega) dL_law_178 dL_law_179 dL_law_180 (by decide) dL_law_181 dL_law_182 ?_
  refine lw_ld (k := 4) C hS (lv_at hl 0 rfl) (lv_at hl 3 rfl) (by omega) dL_law_183 dL_law_184 dL_law_185 (by decide) dL_law_186 dL_law_187 ?_
  refine lv_if_eq C0.1 C0.2.1 (tgt := 195) dL_law_188 (by decide) (fun hz => ?_) (fun hz => ?_)
  · refine lv_iconst (v := nI (Bool.toNat false)) C0.1 C0.2.1 dL_law_195 (by decide) ?_
    obtain ⟨t2, Ph, hW2, hJC, hJR⟩ := J_note hW (xs (i + 1)) (xs (i + 2)) (xs (i + 3)) false
    refine lw_callV (st0 := [.int (nI (Bool.toNat false)), .int (xs (i + 3)), .int (xs (i + 2)), .int (xs (i + 1)), .ref 0]) (rest := []) (As := [.int (xs (i + 1)), .int (xs (i + 2)), .int (xs (i + 3)), .int (nI (Bool.toNat false))]) (ci := 11) C dL_law_196 zc_L_18 zs_X11_note zz_clX11 (cm_o0 hca) rfl rfl (Nat.le_of_ble_eq_true rfl) (Nat.le_of_ble_eq_true rfl) (Nat.le_of_ble_eq_true rfl) (hJC _ _ _ _ _ _ _ _ _ hca hCI) (Nat.le_refl _) (Nat.le_refl _) hR hS hl.1 (fun r h1 H1 locs1 hq hR1 hS1 => ?_)
    obtain ⟨⟨x, hPh, rfl⟩, X1, Y1, rl1, ST1, hca1, hfr, hCI1⟩ := hq
    have hra1 := rm_at_c hra hfr
    refine lv_aload_n C0.1 C0.2.1 dL_law_199 rfl (lv_at hl 2 rfl) ?_
    refine lw_ld (k := 1) C hS1 (lv_at hl 0 rfl) (lv_at hl 3 rfl) (by omega) dL_law_200 dL_law_201 dL_law_202 (by decide) dL_law_203 dL_law_204 ?_
    refine lw_ld (k := 2) C hS1 (lv_at hl 0 rfl) (lv_at hl 3 rfl) (by omega) dL_law_205 dL_law_206 dL_law_207 (by decide) dL_law_208 dL_law_209 ?_
    refine lw_ld (k := 3) C hS1 (lv_at hl 0 rfl) (lv_at hl 3 rfl) (by omega) dL_law_210 dL_law_211 dL_law_212 (by decide) dL_law_213 dL_law_214 ?_
    refine lw_ld (k := 4) C hS1 (lv_at hl 0 rfl) (lv_at hl 3 rfl) (by omega) dL_law_215 dL_law_216 dL_law_217 (by decide) dL_law_218 dL_law_219 ?_
    refine lv_if_eq C0.1 C0.2.1 (tgt := 227) dL_law_220 (by decide) (fun _ => ?_) (fun z => absurd hz z)
    refine lv_iconst (v := nI (Bool.toNat false)) C0.1 C0.2.1 dL_law_227 (by decide) ?_
    refine lw_callV (st0 := [.int (nI (Bool.toNat false)), .int (xs (i + 3)), .int (xs (i + 2)), .int (xs (i + 1)), .ref 169, .int x]) (rest := [.int x]) (As := [.int (xs (i + 1)), .int (xs (i + 2)), .int (xs (i + 3)), .int (nI (Bool.toNat false))]) (ci := 12) C dL_law_228 zc_L_22 zs_X12_note zz_cl hra1.1 rfl rfl (Nat.le_of_ble_eq_true rfl) (Nat.le_of_ble_eq_true rfl) (Nat.le_of_ble_eq_true rfl) (hJR x hPh _ _ _ _ _ _ _ _ _ hra1 hRI) (Nat.le_refl _) (Nat.le_refl _) hR1 hS1 hl.1 (fun r h2 H2 locs2 hq hR2 hS2 => ?_)
    obtain ⟨rfl, F2, G2, A2, B2, hra2, hfr2, hRI2⟩ := hq
    have hca2 := cm_at_r hca1 hfr2
    refine lv_icmp_eq C0.1 C0.2.1 (tgt := 1064) dL_law_231 (by decide) (fun _ => ?_) (fun z => absurd rfl z)
    exact K t2 h2 H2 locs2 ls ⟨hW2, X1, Y1, rl1, ST1, F2, G2, A2, B2, hca2, hCI1, hra2, hRI2⟩ hR2 hS2 hl
  · refine lv_iconst (v := nI (Bool.toNat true)) C0.1 C0.2.1 dL_law_191 (by decide) ?_
    refine lv_goto C0.1 C0.2.1 (tgt := 196) dL_law_192 (by decide) ?_
    obtain ⟨t2, Ph, hW2, hJC, hJR⟩ := J_note hW (xs (i + 1)) (xs (i + 2)) (xs (i + 3)) true
    refine lw_callV (st0 := [.int (nI (Bool.toNat true)), .int (xs (i + 3)), .int (xs (i + 2)), .int (xs (i + 1)), .ref 0]) (rest := []) (As := [.int (xs (i + 1)), .int (xs (i + 2)), .int (xs (i + 3)), .int (nI (Bool.toNat true))]) (ci := 11) C dL_law_196 zc_L_18 zs_X11_note zz_clX11 (cm_o0 hca) rfl rfl (Nat.le_of_ble_eq_true rfl) (Nat.le_of_ble_eq_true rfl) (Nat.le_of_ble_eq_true rfl) (hJC _ _ _ _ _ _ _ _ _ hca hCI) (Nat.le_refl _) (Nat.le_refl _) hR hS hl.1 (fun r h1 H1 locs1 hq hR1 hS1 => ?_)
    obtain ⟨⟨x, hPh, rfl⟩, X1, Y1, rl1, ST1, hca1, hfr, hCI1⟩ := hq
    have hra1 := rm_at_c hra hfr
    refine lv_aload_n C0.1 C0.2.1 dL_law_199 rfl (lv_at hl 2 rfl) ?_
    refine lw_ld (k := 1) C hS1 (lv_at hl 0 rfl) (lv_at hl 3 rfl) (by omega) dL_law_200 dL_law_201 dL_law_202 (by decide) dL_law_203 dL_law_204 ?_
    refine lw_ld (k := 2) C hS1 (lv_at hl 0 rfl) (lv_at hl 3 rfl) (by omega) dL_law_205 dL_law_206 dL_law_207 (by decide) dL_law_208 dL_law_209 ?_
    refine lw_ld (k := 3) C hS1 (lv_at hl 0 rfl) (lv_at hl 3 rfl) (by omega) dL_law_210 dL_law_211 dL_law_212 (by decide) dL_law_213 dL_law_214 ?_
    refine lw_ld (k := 4) C hS1 (lv_at hl 0 rfl) (lv_at hl 3 rfl) (by omega) dL_law_215 dL_law_216 dL_law_217 (by decide) dL_law_218 dL_law_219 ?_
    refine lv_if_eq C0.1 C0.2.1 (tgt := 227) dL_law_220 (by decide) (fun z => absurd z hz) (fun _ => ?_)
    refine lv_iconst (v := nI (Bool.toNat true)) C0.1 C0.2.1 dL_law_223 (by decide) ?_
    refine lv_goto C0.1 C0.2.1 (tgt := 228) dL_law_224 (by decide) ?_
    refine lw_callV (st0 := [.int (nI (Bool.toNat true)), .int (xs (i + 3)), .int (xs (i + 2)), .int (xs (i + 1)), .ref 169, .int x]) (rest := [.int x]) (As := [.int (xs (i + 1)), .int (xs (i + 2)), .int (xs (i + 3)), .int (nI (Bool.toNat true))]) (ci := 12) C dL_law_228 zc_L_22 zs_X12_note zz_cl hra1.1 rfl rfl (Nat.le_of_ble_eq_true rfl) (Nat.le_of_ble_eq_true rfl) (Nat.le_of_ble_eq_true rfl) (hJR x hPh _ _ _ _ _ _ _ _ _ hra1 hRI) (Nat.le_refl _) (Nat.le_refl _) hR1 hS1 hl.1 (fun r h2 H2 locs2 hq hR2 hS2 => ?_)
    obtain ⟨rfl, F2, G2, A2, B2, hra2, hfr2, hRI2⟩ := hq
    have hca2 := cm_at_r hca1 hfr2
    refine lv_icmp_eq C0.1 C0.2.1 (tgt := 1064) dL_law_231 (by decide) (fun _ => ?_) (fun z => absurd rfl z)
    exact K t2 h2 H2 locs2 ls ⟨hW2, X1, Y1, rl1, ST1, F2, G2, A2, B2, hca2, hCI1, hra2, hRI2⟩ hR2 hS2 hl
theorem lw_c_rest (C : lw_X l D aa p s m meth c b Ln xs) (hi : i + 6 ≤ Ln) (K : lw_go p l e s m below meth c b D aa 1064 i) : lw_go p l e s m below meth c b D aa 236 i := by
  intro t h H locs ls hinv hR hS hl
  obtain ⟨hW, X, Y, rl, ST, F, G, A, B, hca, hCI, hra, hRI⟩ := hinv
  have C0 := C.1
  have hown : s.vm.findClass RL = some m.cls := C0.2.2.2.2.1
  refine lv_aload_n C0.1 C0.2.1 dL_law_236 rfl (lv_at hl 1 rfl) ?_
  refine lw_ld (k := 1) C hS (lv_at hl 0 rfl) (lv_at hl 3 rfl) (by omega) dL_law_237 dL_law_238 dL_law_239 (by decide) dL_law_240 dL_law_241 ?_
  refine lw_ld (k := 2) C hS (lv_at hl 0 rfl) (lv_at hl 3 rfl) (by omega) dL_law_242 dL_law_243 dL_law_244 (by decide) dL_law_245 dL_law_246 ?_
  obtain ⟨t2, Ph, hW2, hJC, hJR⟩ := J_rest hW (xs (i + 1)) (xs (i + 2))
  refine lw_callV (st0 := [.int (xs (i + 2)), .int (xs (i + 1)), .ref 0]) (rest := []) (As := [.int (xs (i + 1)), .int (xs (i + 2))]) (ci := 11) C dL_law_247 zc_L_23 zs_X11_rest zz_clX11 (cm_o0 hca) rfl rfl (Nat.le_of_ble_eq_true rfl) (Nat.le_of_ble_eq_true rfl) (Nat.le_of_ble_eq_true rfl) (hJC _ _ _ _ _ _ _ _ _ hca hCI) (Nat.le_refl _) (Nat.le_refl _) hR hS hl.1 (fun r h1 H1 locs1 hq hR1 hS1 => ?_)
  obtain ⟨⟨x, hPh, rfl⟩, X1, Y1, rl1, ST1, hca1, hfr, hCI1⟩ := hq
  have hra1 := rm_at_c hra hfr
  refine lv_aload_n C0.1 C0.2.1 dL_law_250 rfl (lv_at hl 2 rfl) ?_
  refine lw_ld (k := 1) C hS1 (lv_at hl 0 rfl) (lv_at hl 3 rfl) (by omega) dL_law_251 dL_law_252 dL_law_253 (by decide) dL_law_254 dL_law_255 ?_
  refine lw_ld (k := 2) C hS1 (lv_at hl 0 rfl) (lv_at hl 3 rfl) (by omega) dL_law_256 dL_law_257 dL_law_258 (by decide) dL_law_259 dL_law_260 ?_
  refine lw_callV (st0 := [.int (xs (i + 2)), .int (xs (i + 1)), .ref 169, .int x]) (rest := [.int x]) (As := [.int (xs (i + 1)), .int (xs (i + 2))]) (ci := 12) C dL_law_261 zc_L_27 zs_X12_rest zz_cl hra1.1 rfl rfl (Nat.le_of_ble_eq_true rfl) (Nat.le_of_ble_eq_true rfl) (Nat.le_of_ble_eq_true rfl) (hJR x hPh _ _ _ _ _ _ _ _ _ hra1 hRI) (Nat.le_refl _) (Nat.le_refl _) hR1 hS1 hl.1 (fun r h2 H2 locs2 hq hR2 hS2 => ?_)
  obtain ⟨rfl, F2, G2, A2, B2, hra2, hfr2, hRI2⟩ := hq
  have hca2 := cm_at_r hca1 hfr2
  refine lv_icmp_eq C0.1 C0.2.1 (tgt := 1064) dL_law_264 (by decide) (fun _ => ?_) (fun z => absurd rfl z)
  exact K t2 h2 H2 locs2 ls ⟨hW2, X1, Y1, rl1, ST1, F2, G2, A2, B2, hca2, hCI1, hra2, hRI2⟩ hR2 hS2 hl
theorem lw_c_dot (C : lw_X l D aa p s m meth c b Ln xs) (hi : i + 6 ≤ Ln) (K : lw_go p l e s m below meth c b D aa 1064 i) : lw_go p l e s m below meth c b D aa 269 i := by
  intro t h H locs ls hinv hR hS hl
  obtain ⟨hW, X, Y, rl, ST, F, G, A, B, hca, hCI, hra, hRI⟩ := hinv
  have C0 := C.1
  have hown : s.vm.findClass RL = some m.cls := C0.2.2.2.2.1
  refine lv_aload_n C0.1 C0.2.1 dL_law_269 rfl (lv_at hl 1 rfl) ?_
  refine lw_ld (k := 1) C hS (lv_at hl 0 rfl) (lv_at hl 3 rfl) (by omega) dL_law_270 dL_law_271 dL_law_272 (by decide) dL_law_273 dL_law_274 ?_
  obtain ⟨t2, Ph, hW2, hJC, hJR⟩ := J_dot hW (xs (i + 1))
  refine lw_callV (st0 := [.int (xs (i + 1)), .ref 0]) (rest := []) (As := [.int (xs (i + 1))]) (ci := 11) C dL_law_275 zc_L_28 zs_X11_dot zz_clX11 (cm_o0 hca) rfl rfl (Nat.le_of_ble_eq_true rfl) (Nat.le_of_ble_eq_true rfl) (Nat.le_of_ble_eq_true rfl) (hJC _ _ _ _ _ _ _ _ _ hca hCI) (Nat.le_refl _) (Nat.le_refl _) hR hS hl.1 (fun r h1 H1 locs1 hq hR1 hS1 => ?_)
  obtain ⟨⟨x, hPh, rfl⟩, X1, Y1, rl1, ST1, hca1, hfr, hCI1⟩ := hq
  have hra1 := rm_at_c hra hfr
  refine lv_aload_n C0.1 C0.2.1 dL_law_278 rfl (lv_at hl 2 rfl) ?_
  refine lw_ld (k := 1) C hS1 (lv_at hl 0 rfl) (lv_at hl 3 rfl) (by omega) dL_law_279 dL_law_280 dL_law_281 (by decide) dL_law_282 dL_law_283 ?_
  refine lw_callV (st0 := [.int (xs (i + 1)), .ref 169, .int x]) (rest := [.int x]) (As := [.int (xs (i + 1))]) (ci := 12) C dL_law_284 zc_L_31 zs_X12_dot zz_cl hra1.1 rfl rfl (Nat.le_of_ble_eq_true rfl) (Nat.le_of_ble_eq_true rfl) (Nat.le_of_ble_eq_true rfl) (hJR x hPh _ _ _ _ _ _ _ _ _ hra1 hRI) (Nat.le_refl _) (Nat.le_refl _) hR1 hS1 hl.1 (fun r h2 H2 locs2 hq hR2 hS2 => ?_)
  obtain ⟨rfl, F2, G2, A2, B2, hra2, hfr2, hRI2⟩ := hq
  have hca2 := cm_at_r hca1 hfr2
  refine lv_icmp_eq C0.1 C0.2.1 (tgt := 1064) dL_law_287 (by decide) (fun _ => ?_) (fun z => absurd rfl z)
  exact K t2 h2 H2 locs2 ls ⟨hW2, X1, Y1, rl1, ST1, F2, G2, A2, B2, hca2, hCI1, hra2, hRI2⟩ hR2 hS2 hl
theorem lw_c_ligature (C : lw_X l D aa p s m meth c b Ln xs) (hi : i + 6 ≤ Ln) (K : lw_go p l e s m below meth c b D aa 1064 i) : lw_go p l e s m below meth c b D aa 292 i := by
  intro t h H locs ls hinv hR hS hl
  obtain ⟨hW, X, Y, rl, ST, F, G, A, B, hca, hCI, hra, hRI⟩ := hinv
  have C0 := C.1
  have hown : s.vm.findClass RL = some m.cls := C0.2.2.2.2.1
  refine lv_aload_n C0.1 C0.2.1 dL_law_292 rfl (lv_at hl 1 rfl) ?_
  refine lw_ld (k := 1) C hS (lv_at hl 0 rfl) (lv_at hl 3 rfl) (by omega) dL_law_293 dL_law_294 dL_law_295 (by decide) dL_law_296 dL_law_297 ?_
  refine lw_ld (k := 2) C hS (lv_at hl 0 rfl) (lv_at hl 3 rfl) (by omega) dL_law_298 dL_law_299 dL_law_300 (by decide) dL_law_301 dL_law_302 ?_
  refine lw_ld (k := 3) C hS (lv_at hl 0 rfl) (lv_at hl 3 rfl) (by omega) dL_law_303 dL_law_304 dL_law_305 (by decide) dL_law_306 dL_law_307 ?_
  refine lw_ld (k := 4) C hS (lv_at hl 0 rfl) (lv_at hl 3 rfl) (by omega) dL_law_308 dL_law_309 dL_law_310 (by decide) dL_law_311 dL_law_312 ?_
  refine lv_i2l C0.1 C0.2.1 dL_law_313 rfl ?_
  refine lv_bipush (v := nI 32) C0.1 C0.2.1 dL_law_314 (by decide) ?_
  refine lv_lshl C0.1 C0.2.1 dL_law_316 rfl ?_
  refine lw_ld (k := 5) C hS (lv_at hl 0 rfl) (lv_at hl 3 rfl) (by omega) dL_law_317 dL_law_318 dL_law_319 (by decide) dL_law_320 dL_law_321 ?_
  refine lv_i2l C0.1 C0.2.1 dL_law_322 rfl ?_
  refine lv_ldc2 (v := 4294967295) C0.1 C0.2.1 hown (C.2.2.2.1 _ zkLong_L_32) dL_law_323 ?_
  refine lv_land C0.1 C0.2.1 dL_law_326 ?_
  refine lv_lor C0.1 C0.2.1 dL_law_327 ?_
  obtain ⟨t2, Ph, hW2, hJC, hJR⟩ := J_ligature hW (xs (i + 1)) (xs (i + 2)) (xs (i + 3)) (((xs (i + 4)).toInt64 <<< ((nI 32).toInt64 &&& 63)) ||| ((xs (i + 5)).toInt64 &&& 4294967295))
  refine lw_callV (st0 := [.long (((xs (i + 4)).toInt64 <<< ((nI 32).toInt64 &&& 63)) ||| ((xs (i + 5)).toInt64 &&& 4294967295)), .int (xs (i + 3)), .int (xs (i + 2)), .int (xs (i + 1)), .ref 0]) (rest := []) (As := [.int (xs (i + 1)), .int (xs (i + 2)), .int (xs (i + 3)), .long (((xs (i + 4)).toInt64 <<< ((nI 32).toInt64 &&& 63)) ||| ((xs (i + 5)).toInt64 &&& 4294967295))]) (ci := 11) C dL_law_328 zc_L_34 zs_X11_ligature zz_clX11 (cm_o0 hca) rfl rfl (Nat.le_of_ble_eq_true rfl) (Nat.le_of_ble_eq_true rfl) (Nat.le_of_ble_eq_true rfl) (hJC _ _ _ _ _ _ _ _ _ hca hCI) (Nat.le_refl _) (Nat.le_refl _) hR hS hl.1 (fun r h1 H1 locs1 hq hR1 hS1 => ?_)
  obtain ⟨⟨x, hPh, rfl⟩, X1, Y1, rl1, ST1, hca1, hfr, hCI1⟩ := hq
  have hra1 := rm_at_c hra hfr
  refine lv_aload_n C0.1 C0.2.1 dL_law_331 rfl (lv_at hl 2 rfl) ?_
  refine lw_ld (k := 1) C hS1 (lv_at hl 0 rfl) (lv_at hl 3 rfl) (by omega) dL_law_332 dL_law_333 dL_law_334 (by decide) dL_law_335 dL_law_336 ?_
  refine lw_ld (k := 2) C hS1 (lv_at hl 0 rfl) (lv_at hl 3 rfl) (by omega) dL_law_337 dL_law_338 dL_law_339 (by decide) dL_law_340 dL_law_341 ?_
  refine lw_ld (k := 3) C hS1 (lv_at hl 0 rfl) (lv_at hl 3 rfl) (by omega) dL_law_342 dL_law_343 dL_law_344 (by decide) dL_law_345 dL_law_346 ?_
  refine lw_ld (k := 4) C hS1 (lv_at hl 0 rfl) (lv_at hl 3 rfl) (by omega) dL_law_347 dL_law_348 dL_law_349 (by decide) dL_law_350 dL_law_351 ?_
  refine lv_i2l C0.1 C0.2.1 dL_law_352 rfl ?_
  refine lv_bipush (v := nI 32) C0.1 C0.2.1 dL_law_353 (by decide) ?_
  refine lv_lshl C0.1 C0.2.1 dL_law_355 rfl ?_
  refine lw_ld (k := 5) C hS1 (lv_at hl 0 rfl) (lv_at hl 3 rfl) (by omega) dL_law_356 dL_law_357 dL_law_358 (by decide) dL_law_359 dL_law_360 ?_
  refine lv_i2l C0.1 C0.2.1 dL_law_361 rfl ?_
  refine lv_ldc2 (v := 4294967295) C0.1 C0.2.1 hown (C.2.2.2.1 _ zkLong_L_32) dL_law_362 ?_
  refine lv_land C0.1 C0.2.1 dL_law_365 ?_
  refine lv_lor C0.1 C0.2.1 dL_law_366 ?_
  refine lw_callV (st0 := [.long (((xs (i + 4)).toInt64 <<< ((nI 32).toInt64 &&& 63)) ||| ((xs (i + 5)).toInt64 &&& 4294967295)), .int (xs (i + 3)), .int (xs (i + 2)), .int (xs (i + 1)), .ref 169, .int x]) (rest := [.int x]) (As := [.int (xs (i + 1)), .int (xs (i + 2)), .int (xs (i + 3)), .long (((xs (i + 4)).toInt64 <<< ((nI 32).toInt64 &&& 63)) ||| ((xs (i + 5)).toInt64 &&& 4294967295))]) (ci := 12) C dL_law_367 zc_L_38 zs_X12_ligature zz_cl hra1.1 rfl rfl (Nat.le_of_ble_eq_true rfl) (Nat.le_of_ble_eq_true rfl) (Nat.le_of_ble_eq_true rfl) (hJR x hPh _ _ _ _ _ _ _ _ _ hra1 hRI) (Nat.le_refl _) (Nat.le_refl _) hR1 hS1 hl.1 (fun r h2 H2 locs2 hq hR2 hS2 => ?_)
  obtain ⟨rfl, F2, G2, A2, B2, hra2, hfr2, hRI2⟩ := hq
  have hca2 := cm_at_r hca1 hfr2
  refine lv_icmp_eq C0.1 C0.2.1 (tgt := 1064) dL_law_370 (by decide) (fun _ => ?_) (fun z => absurd rfl z)
  exact K t2 h2 H2 locs2 ls ⟨hW2, X1, Y1, rl1, ST1, F2, G2, A2, B2, hca2, hCI1, hra2, hRI2⟩ hR2 hS2 hl
theorem lw_c_proportion (C : lw_X l D aa p s m meth c b Ln xs) (hi : i + 6 ≤ Ln) (K : lw_go p l e s m below meth c b D aa 1064 i) : lw_go p l e s m below meth c b D aa 375 i := by
  intro t h H locs ls hinv hR hS hl
  obtain ⟨hW, X, Y, rl, ST, F, G, A, B, hca, hCI, hra, hRI⟩ := hinv
  have C0 := C.1
  have hown : s.vm.findClass RL = some m.cls := C0.2.2.2.2.1
  refine lv_aload_n C0.1 C0.2.1 dL_law_375 rfl (lv_at hl 1 rfl) ?_
  refine lw_ld (k := 1) C hS (lv_at hl 0 rfl) (lv_at hl 3 rfl) (by omega) dL_law_376 dL_law_377 dL_law_378 (by decide) dL_law_379 dL_law_380 ?_
  refine lw_ld (k := 2) C hS (lv_at hl 0 rfl) (lv_at hl 3 rfl) (by omega) dL_law_381 dL_law_382 dL_law_383 (by decide) dL_law_384 dL_law_385 ?_
  refine lw_ld (k := 3) C hS (lv_at hl 0 rfl) (lv_at hl 3 rfl) (by omega) dL_law_386 dL_law_387 dL_law_388 (by decide) dL_law_389 dL_law_390 ?_
  obtain ⟨t2, Ph, hW2, hJC, hJR⟩ := J_proportion hW (xs (i + 1)) (xs (i + 2)) (xs (i + 3))
  refine lw_callV (st0 := [.int (xs (i + 3)), .int (xs (i + 2)), .int (xs (i + 1)), .ref 0]) (rest := []) (As := [.int (xs (i + 1)), .int (xs (i + 2)), .int (xs (i + 3))]) (ci := 11) C dL_law_391 zc_L_39 zs_X11_proportion zz_clX11 (cm_o0 hca) rfl rfl (Nat.le_of_ble_eq_true rfl) (Nat.le_of_ble_eq_true rfl) (Nat.le_of_ble_eq_true rfl) (hJC _ _ _ _ _ _ _ _ _ hca hCI) (Nat.le_refl _) (Nat.le_refl _) hR hS hl.1 (fun r h1 H1 locs1 hq hR1 hS1 => ?_)
  obtain ⟨⟨x, hPh, rfl⟩, X1, Y1, rl1, ST1, hca1, hfr, hCI1⟩ := hq
  have hra1 := rm_at_c hra hfr
  refine lv_aload_n C0.1 C0.2.1 dL_law_394 rfl (lv_at hl 2 rfl) ?_
  refine lw_ld (k := 1) C hS1 (lv_at hl 0 rfl) (lv_at hl 3 rfl) (by omega) dL_law_395 dL_law_396 dL_law_397 (by decide) dL_law_398 dL_law_399 ?_
  refine lw_ld (k := 2) C hS1 (lv_at hl 0 rfl) (lv_at hl 3 rfl) (by omega) dL_law_400 dL_law_401 dL_law_402 (by decide) dL_law_403 dL_law_404 ?_
  refine lw_ld (k := 3) C hS1 (lv_at hl 0 rfl) (lv_at hl 3 rfl) (by omega) dL_law_405 dL_law_406 dL_law_407 (by decide) dL_law_408 dL_law_409 ?_
  refine lw_callV (st0 := [.int (xs (i + 3)), .int (xs (i + 2)), .int (xs (i + 1)), .ref 169, .int x]) (rest := [.int x]) (As := [.int (xs (i + 1)), .int (xs (i + 2)), .int (xs (i + 3))]) (ci := 12) C dL_law_410 zc_L_43 zs_X12_proportion zz_cl hra1.1 rfl rfl (Nat.le_of_ble_eq_true rfl) (Nat.le_of_ble_eq_true rfl) (Nat.le_of_ble_eq_true rfl) (hJR x hPh _ _ _ _ _ _ _ _ _ hra1 hRI) (Nat.le_refl _) (Nat.le_refl _) hR1 hS1 hl.1 (fun r h2 H2 locs2 hq hR2 hS2 => ?_)
  obtain ⟨rfl, F2, G2, A2, B2, hra2, hfr2, hRI2⟩ := hq
  have hca2 := cm_at_r hca1 hfr2
  refine lv_icmp_eq C0.1 C0.2.1 (tgt := 1064) dL_law_413 (by decide) (fun _ => ?_) (fun z => absurd rfl z)
  exact K t2 h2 H2 locs2 ls ⟨hW2, X1, Y1, rl1, ST1, F2, G2, A2, B2, hca2, hCI1, hra2, hRI2⟩ hR2 hS2 hl
theorem lw_c_back (C : lw_X l D aa p s m meth c b Ln xs) (hi : i + 6 ≤ Ln) (K : lw_go p l e s m below meth c b D aa 1064 i) : lw_go p l e s m below meth c b D aa 418 i := by
  intro t h H locs ls hinv hR hS hl
  obtain ⟨hW, X, Y, rl, ST, F, G, A, B, hca, hCI, hra, hRI⟩ := hinv
  have C0 := C.1
  have hown : s.vm.findClass RL = some m.cls := C0.2.2.2.2.1
  refine lv_aload_n C0.1 C0.2.1 dL_law_418 rfl (lv_at hl 1 rfl) ?_
  refine lw_ld (k := 1) C hS (lv_at hl 0 rfl) (lv_at hl 3 rfl) (by omega) dL_law_419 dL_law_420 dL_law_421 (by decide) dL_law_422 dL_law_423 ?_
  obtain ⟨t2, Ph, hW2, hJC, hJR⟩ := J_back hW (xs (i + 1))
  refine lw_callV (st0 := [.int (xs (i + 1)), .ref 0]) (rest := []) (As := [.int (xs (i + 1))]) (ci := 11) C dL_law_424 zc_L_44 zs_X11_back zz_clX11 (cm_o0 hca) rfl rfl (Nat.le_of_ble_eq_true rfl) (Nat.le_of_ble_eq_true rfl) (Nat.le_of_ble_eq_true rfl) (hJC _ _ _ _ _ _ _ _ _ hca hCI) (Nat.le_refl _) (Nat.le_refl _) hR hS hl.1 (fun r h1 H1 locs1 hq hR1 hS1 => ?_)
  obtain ⟨⟨x, hPh, rfl⟩, X1, Y1, rl1, ST1, hca1, hfr, hCI1⟩ := hq
  have hra1 := rm_at_c hra hfr
  refine lv_aload_n C0.1 C0.2.1 dL_law_427 rfl (lv_at hl 2 rfl) ?_
  refine lw_ld (k := 1) C hS1 (lv_at hl 0 rfl) (lv_at hl 3 rfl) (by omega) dL_law_428 dL_law_429 dL_law_430 (by decide) dL_law_431 dL_law_432 ?_
  refine lw_callV (st0 := [.int (xs (i + 1)), .ref 169, .int x]) (rest := [.int x]) (As := [.int (xs (i + 1))]) (ci := 12) C dL_law_433 zc_L_47 zs_X12_back zz_cl hra1.1 rfl rfl (Nat.le_of_ble_eq_true rfl) (Nat.le_of_ble_eq_true rfl) (Nat.le_of_ble_eq_true rfl) (hJR x hPh _ _ _ _ _ _ _ _ _ hra1 hRI) (Nat.le_refl _) (Nat.le_refl _) hR1 hS1 hl.1 (fun r h2 H2 locs2 hq hR2 hS2 => ?_)
  obtain ⟨rfl, F2, G2, A2, B2, hra2, hfr2, hRI2⟩ := hq
  have hca2 := cm_at_r hca1 hfr2
  refine lv_icmp_eq C0.1 C0.2.1 (tgt := 1064) dL_law_436 (by decide) (fun _ => ?_) (fun z => absurd rfl z)
  exact K t2 h2 H2 locs2 ls ⟨hW2, X1, Y1, rl1, ST1, F2, G2, A2, B2, hca2, hCI1, hra2, hRI2⟩ hR2 hS2 hl
theorem lw_c_told (C : lw_X l D aa p s m meth c b Ln xs) (hi : i + 6 ≤ Ln) (K : lw_go p l e s m below meth c b D aa 1064 i) : lw_go p l e s m below meth c b D aa 441 i := by
  intro t h H locs ls hinv hR hS hl
  obtain ⟨hW, X, Y, rl, ST, F, G, A, B, hca, hCI, hra, hRI⟩ := hinv
  have C0 := C.1
  have hown : s.vm.findClass RL = some m.cls := C0.2.2.2.2.1
  refine lv_aload_n C0.1 C0.2.1 dL_law_441 rfl (lv_at hl 1 rfl) ?_
  refine lw_ld (k := 1) C hS (lv_at hl 0 rfl) (lv_at hl 3 rfl) (by omega) dL_law_442 dL_law_443 dL_law_444 (by decide) dL_law_445 dL_law_446 ?_
  refine lw_ld (k := 2) C hS (lv_at hl 0 rfl) (lv_at hl 3 rfl) (by omega) dL_law_447 dL_law_448 dL_law_449 (by decide) dL_law_450 dL_law_451 ?_
  obtain ⟨t2, Ph, hW2, hJC, hJR⟩ := J_told hW (xs (i + 1)) (xs (i + 2))
  refine lw_callV (st0 := [.int (xs (i + 2)), .int (xs (i + 1)), .ref 0]) (rest := []) (As := [.int (xs (i + 1)), .int (xs (i + 2))]) (ci := 11) C dL_law_452 zc_L_48 zs_X11_told zz_clX11 (cm_o0 hca) rfl rfl (Nat.le_of_ble_eq_true rfl) (Nat.le_of_ble_eq_true rfl) (Nat.le_of_ble_eq_true rfl) (hJC _ _ _ _ _ _ _ _ _ hca hCI) (Nat.le_refl _) (Nat.le_refl _) hR hS hl.1 (fun r h1 H1 locs1 hq hR1 hS1 => ?_)
  obtain ⟨⟨x, hPh, rfl⟩, X1, Y1, rl1, ST1, hca1, hfr, hCI1⟩ := hq
  have hra1 := rm_at_c hra hfr
  refine lv_aload_n C0.1 C0.2.1 dL_law_455 rfl (lv_at hl 2 rfl) ?_
  refine lw_ld (k := 1) C hS1 (lv_at hl 0 rfl) (lv_at hl 3 rfl) (by omega) dL_law_456 dL_law_457 dL_law_458 (by decide) dL_law_459 dL_law_460 ?_
  refine lw_ld (k := 2) C hS1 (lv_at hl 0 rfl) (lv_at hl 3 rfl) (by omega) dL_law_461 dL_law_462 dL_law_463 (by decide) dL_law_464 dL_law_465 ?_
  refine lw_callV (st0 := [.int (xs (i + 2)), .int (xs (i + 1)), .ref 169, .int x]) (rest := [.int x]) (As := [.int (xs (i + 1)), .int (xs (i + 2))]) (ci := 12) C dL_law_466 zc_L_51 zs_X12_told zz_cl hra1.1 rfl rfl (Nat.le_of_ble_eq_true rfl) (Nat.le_of_ble_eq_true rfl) (Nat.le_of_ble_eq_true rfl) (hJR x hPh _ _ _ _ _ _ _ _ _ hra1 hRI) (Nat.le_refl _) (Nat.le_refl _) hR1 hS1 hl.1 (fun r h2 H2 locs2 hq hR2 hS2 => ?_)
  obtain ⟨rfl, F2, G2, A2, B2, hra2, hfr2, hRI2⟩ := hq
  have hca2 := cm_at_r hca1 hfr2
  refine lv_icmp_eq C0.1 C0.2.1 (tgt := 1064) dL_law_469 (by decide) (fun _ => ?_) (fun z => absurd rfl z)
  exact K t2 h2 H2 locs2 ls ⟨hW2, X1, Y1, rl1, ST1, F2, G2, A2, B2, hca2, hCI1, hra2, hRI2⟩ hR2 hS2 hl
theorem lw_c_symbol (C : lw_X l D aa p s m meth c b Ln xs) (hi : i + 6 ≤ Ln) (K : lw_go p l e s m below meth c b D aa 1064 i) : lw_go p l e s m below meth c b D aa 474 i := by
  intro t h H locs ls hinv hR hS hl
  obtain ⟨hW, X, Y, rl, ST, F, G, A, B, hca, hCI, hra, hRI⟩ := hinv
  have C0 := C.1
  have hown : s.vm.findClass RL = some m.cls := C0.2.2.2.2.1
  refine lv_aload_n C0.1 C0.2.1 dL_law_474 rfl (lv_at hl 1 rfl) ?_
  refine lw_ld (k := 1) C hS (lv_at hl 0 rfl) (lv_at hl 3 rfl) (by omega) dL_law_475 dL_law_476 dL_law_477 (by decide) dL_law_478 dL_law_479 ?_
  refine lw_ld (k := 2) C hS (lv_at hl 0 rfl) (lv_at hl 3 rfl) (by omega) dL_law_480 dL_law_481 dL_law_482 (by decide) dL_law_483 dL_law_484 ?_
  refine lw_ld (k := 3) C hS (lv_at hl 0 rfl) (lv_at hl 3 rfl) (by omega) dL_law_485 dL_law_486 dL_law_487 (by decide) dL_law_488 dL_law_489 ?_
  obtain ⟨t2, Ph, hW2, hJC, hJR⟩ := J_symbol hW (xs (i + 1)) (xs (i + 2)) (xs (i + 3))
  refine lw_callV (st0 := [.int (xs (i + 3)), .int (xs (i + 2)), .int (xs (i + 1)), .ref 0]) (rest := []) (As := [.int (xs (i + 1)), .int (xs (i + 2)), .int (xs (i + 3))]) (ci := 11) C dL_law_490 zc_L_52 zs_X11_symbol zz_clX11 (cm_o0 hca) rfl rfl (Nat.le_of_ble_eq_true rfl) (Nat.le_of_ble_eq_true rfl) (Nat.le_of_ble_eq_true rfl) (hJC _ _ _ _ _ _ _ _ _ hca hCI) (Nat.le_refl _) (Nat.le_refl _) hR hS hl.1 (fun r h1 H1 locs1 hq hR1 hS1 => ?_)
  obtain ⟨⟨x, hPh, rfl⟩, X1, Y1, rl1, ST1, hca1, hfr, hCI1⟩ := hq
  have hra1 := rm_at_c hra hfr
  refine lv_aload_n C0.1 C0.2.1 dL_law_493 rfl (lv_at hl 2 rfl) ?_
  refine lw_ld (k := 1) C hS1 (lv_at hl 0 rfl) (lv_at hl 3 rfl) (by omega) dL_law_494 dL_law_495 dL_law_496 (by decide) dL_law_497 dL_law_498 ?_
  refine lw_ld (k := 2) C hS1 (lv_at hl 0 rfl) (lv_at hl 3 rfl) (by omega) dL_law_499 dL_law_500 dL_law_501 (by decide) dL_law_502 dL_law_503 ?_
  refine lw_ld (k := 3) C hS1 (lv_at hl 0 rfl) (lv_at hl 3 rfl) (by omega) dL_law_504 dL_law_505 dL_law_506 (by decide) dL_law_507 dL_law_508 ?_
  refine lw_callV (st0 := [.int (xs (i + 3)), .int (xs (i + 2)), .int (xs (i + 1)), .ref 169, .int x]) (rest := [.int x]) (As := [.int (xs (i + 1)), .int (xs (i + 2)), .int (xs (i + 3))]) (ci := 12) C dL_law_509 zc_L_55 zs_X12_symbol zz_cl hra1.1 rfl rfl (Nat.le_of_ble_eq_true rfl) (Nat.le_of_ble_eq_true rfl) (Nat.le_of_ble_eq_true rfl) (hJR x hPh _ _ _ _ _ _ _ _ _ hra1 hRI) (Nat.le_refl _) (Nat.le_refl _) hR1 hS1 hl.1 (fun r h2 H2 locs2 hq hR2 hS2 => ?_)
  obtain ⟨rfl, F2, G2, A2, B2, hra2, hfr2, hRI2⟩ := hq
  have hca2 := cm_at_r hca1 hfr2
  refine lv_icmp_eq C0.1 C0.2.1 (tgt := 1064) dL_law_512 (by decide) (fun _ => ?_) (fun z => absurd rfl z)
  exact K t2 h2 H2 locs2 ls ⟨hW2, X1, Y1, rl1, ST1, F2, G2, A2, B2, hca2, hCI1, hra2, hRI2⟩ hR2 hS2 hl
theorem lw_c_readings (C : lw_X l D aa p s m meth c b Ln xs) (hi : i + 6 ≤ Ln) (K : lw_go p l e s m below meth c b D aa 1064 i) : lw_go p l e s m below meth c b D aa 517 i := by
  intro t h H locs ls hinv hR hS hl
  obtain ⟨hW, X, Y, rl, ST, F, G, A, B, hca, hCI, hra, hRI⟩ := hinv
  have C0 := C.1
  have hown : s.vm.findClass RL = some m.cls := C0.2.2.2.2.1
  refine lv_aload_n C0.1 C0.2.1 dL_law_517 rfl (lv_at hl 1 rfl) ?_
  refine lw_ld (k := 1) C hS (lv_at hl 0 rfl) (lv_at hl 3 rfl) (by omega) dL_law_518 dL_law_519 dL_law_520 (by decide) dL_law_521 dL_law_522 ?_
  obtain ⟨t2, Ph, hW2, hJC, hJR⟩ := J_readings hW (xs (i + 1))
  refine lw_callV (st0 := [.int (xs (i + 1)), .ref 0]) (rest := []) (As := [.int (xs (i + 1))]) (ci := 11) C dL_law_523 zc_L_56 zs_X11_readings zz_clX11 (cm_o0 hca) rfl rfl (Nat.le_of_ble_eq_true rfl) (Nat.le_of_ble_eq_true rfl) (Nat.le_of_ble_eq_true rfl) (hJC _ _ _ _ _ _ _ _ _ hca hCI) (Nat.le_refl _) (Nat.le_refl _) hR hS hl.1 (fun r h1 H1 locs1 hq hR1 hS1 => ?_)
  obtain ⟨⟨x, hPh, rfl⟩, X1, Y1, rl1, ST1, hca1, hfr, hCI1⟩ := hq
  have hra1 := rm_at_c hra hfr
  refine lv_aload_n C0.1 C0.2.1 dL_law_526 rfl (lv_at hl 2 rfl) ?_
  refine lw_ld (k := 1) C hS1 (lv_at hl 0 rfl) (lv_at hl 3 rfl) (by omega) dL_law_527 dL_law_528 dL_law_529 (by decide) dL_law_530 dL_law_531 ?_
  refine lw_callV (st0 := [.int (xs (i + 1)), .ref 169, .int x]) (rest := [.int x]) (As := [.int (xs (i + 1))]) (ci := 12) C dL_law_532 zc_L_59 zs_X12_readings zz_cl hra1.1 rfl rfl (Nat.le_of_ble_eq_true rfl) (Nat.le_of_ble_eq_true rfl) (Nat.le_of_ble_eq_true rfl) (hJR x hPh _ _ _ _ _ _ _ _ _ hra1 hRI) (Nat.le_refl _) (Nat.le_refl _) hR1 hS1 hl.1 (fun r h2 H2 locs2 hq hR2 hS2 => ?_)
  obtain ⟨rfl, F2, G2, A2, B2, hra2, hfr2, hRI2⟩ := hq
  have hca2 := cm_at_r hca1 hfr2
  refine lv_icmp_eq C0.1 C0.2.1 (tgt := 1064) dL_law_535 (by decide) (fun _ => ?_) (fun z => absurd rfl z)
  exact K t2 h2 H2 locs2 ls ⟨hW2, X1, Y1, rl1, ST1, F2, G2, A2, B2, hca2, hCI1, hra2, hRI2⟩ hR2 hS2 hl
theorem lw_c_stuck (C : lw_X l D aa p s m meth c b Ln xs) (hi : i + 6 ≤ Ln) (K : lw_go p l e s m below meth c b D aa 1064 i) : lw_go p l e s m below meth c b D aa 540 i := by
  intro t h H locs ls hinv hR hS hl
  obtain ⟨hW, X, Y, rl, ST, F, G, A, B, hca, hCI, hra, hRI⟩ := hinv
  have C0 := C.1
  have hown : s.vm.findClass RL = some m.cls := C0.2.2.2.2.1
  refine lv_aload_n C0.1 C0.2.1 dL_law_540 rfl (lv_at hl 1 rfl) ?_
  refine lw_ld (k := 1) C hS (lv_at hl 0 rfl) (lv_at hl 3 rfl) (by omega) dL_law_541 dL_law_542 dL_law_543 (by decide) dL_law_544 dL_law_545 ?_
  obtain ⟨t2, Ph, hW2, hJC, hJR⟩ := J_stuck hW (xs (i + 1))
  refine lw_callV (st0 := [.int (xs (i + 1)), .ref 0]) (rest := []) (As := [.int (xs (i + 1))]) (ci := 11) C dL_law_546 zc_L_60 zs_X11_stuck zz_clX11 (cm_o0 hca) rfl rfl (Nat.le_of_ble_eq_true rfl) (Nat.le_of_ble_eq_true rfl) (Nat.le_of_ble_eq_true rfl) (hJC _ _ _ _ _ _ _ _ _ hca hCI) (Nat.le_refl _) (Nat.le_refl _) hR hS hl.1 (fun r h1 H1 locs1 hq hR1 hS1 => ?_)
  obtain ⟨⟨x, hPh, rfl⟩, X1, Y1, rl1, ST1, hca1, hfr, hCI1⟩ := hq
  have hra1 := rm_at_c hra hfr
  refine lv_aload_n C0.1 C0.2.1 dL_law_549 rfl (lv_at hl 2 rfl) ?_
  refine lw_ld (k := 1) C hS1 (lv_at hl 0 rfl) (lv_at hl 3 rfl) (by omega) dL_law_550 dL_law_551 dL_law_552 (by decide) dL_law_553 dL_law_554 ?_
  refine lw_callV (st0 := [.int (xs (i + 1)), .ref 169, .int x]) (rest := [.int x]) (As := [.int (xs (i + 1))]) (ci := 12) C dL_law_555 zc_L_63 zs_X12_stuck zz_cl hra1.1 rfl rfl (Nat.le_of_ble_eq_true rfl) (Nat.le_of_ble_eq_true rfl) (Nat.le_of_ble_eq_true rfl) (hJR x hPh _ _ _ _ _ _ _ _ _ hra1 hRI) (Nat.le_refl _) (Nat.le_refl _) hR1 hS1 hl.1 (fun r h2 H2 locs2 hq hR2 hS2 => ?_)
  obtain ⟨rfl, F2, G2, A2, B2, hra2, hfr2, hRI2⟩ := hq
  have hca2 := cm_at_r hca1 hfr2
  refine lv_icmp_eq C0.1 C0.2.1 (tgt := 1064) dL_law_558 (by decide) (fun _ => ?_) (fun z => absurd rfl z)
  exact K t2 h2 H2 locs2 ls ⟨hW2, X1, Y1, rl1, ST1, F2, G2, A2, B2, hca2, hCI1, hra2, hRI2⟩ hR2 hS2 hl
theorem lw_c_strained (C : lw_X l D aa p s m meth c b Ln xs) (hi : i + 6 ≤ Ln) (K : lw_go p l e s m below meth c b D aa 1064 i) : lw_go p l e s m below meth c b D aa 563 i := by
  intro t h H locs ls hinv hR hS hl
  obtain ⟨hW, X, Y, rl, ST, F, G, A, B, hca, hCI, hra, hRI⟩ := hinv
  have C0 := C.1
  have hown : s.vm.findClass RL = some m.cls := C0.2.2.2.2.1
  refine lv_aload_n C0.1 C0.2.1 dL_law_563 rfl (lv_at hl 1 rfl) ?_
  refine lw_ld (k := 1) C hS (lv_at hl 0 rfl) (lv_at hl 3 rfl) (by omega) dL_law_564 dL_law_565 dL_law_566 (by decide) dL_law_567 dL_law_568 ?_
  refine lw_ld (k := 2) C hS (lv_at hl 0 rfl) (lv_at hl 3 rfl) (by omega) dL_law_569 dL_law_570 dL_law_571 (by decide) dL_law_572 dL_law_573 ?_
  obtain ⟨t2, Ph, hW2, hJC, hJR⟩ := J_strained hW (xs (i + 1)) (xs (i + 2))
  refine lw_callV (st0 := [.int (xs (i + 2)), .int (xs (i + 1)), .ref 0]) (rest := []) (As := [.int (xs (i + 1)), .int (xs (i + 2))]) (ci := 11) C dL_law_574 zc_L_64 zs_X11_strained zz_clX11 (cm_o0 hca) rfl rfl (Nat.le_of_ble_eq_true rfl) (Nat.le_of_ble_eq_true rfl) (Nat.le_of_ble_eq_true rfl) (hJC _ _ _ _ _ _ _ _ _ hca hCI) (Nat.le_refl _) (Nat.le_refl _) hR hS hl.1 (fun r h1 H1 locs1 hq hR1 hS1 => ?_)
  obtain ⟨⟨x, hPh, rfl⟩, X1, Y1, rl1, ST1, hca1, hfr, hCI1⟩ := hq
  have hra1 := rm_at_c hra hfr
  refine lv_aload_n C0.1 C0.2.1 dL_law_577 rfl (lv_at hl 2 rfl) ?_
  refine lw_ld (k := 1) C hS1 (lv_at hl 0 rfl) (lv_at hl 3 rfl) (by omega) dL_law_578 dL_law_579 dL_law_580 (by decide) dL_law_581 dL_law_582 ?_
  refine lw_ld (k := 2) C hS1 (lv_at hl 0 rfl) (lv_at hl 3 rfl) (by omega) dL_law_583 dL_law_584 dL_law_585 (by decide) dL_law_586 dL_law_587 ?_
  refine lw_callV (st0 := [.int (xs (i + 2)), .int (xs (i + 1)), .ref 169, .int x]) (rest := [.int x]) (As := [.int (xs (i + 1)), .int (xs (i + 2))]) (ci := 12) C dL_law_588 zc_L_67 zs_X12_strained zz_cl hra1.1 rfl rfl (Nat.le_of_ble_eq_true rfl) (Nat.le_of_ble_eq_true rfl) (Nat.le_of_ble_eq_true rfl) (hJR x hPh _ _ _ _ _ _ _ _ _ hra1 hRI) (Nat.le_refl _) (Nat.le_refl _) hR1 hS1 hl.1 (fun r h2 H2 locs2 hq hR2 hS2 => ?_)
  obtain ⟨rfl, F2, G2, A2, B2, hra2, hfr2, hRI2⟩ := hq
  have hca2 := cm_at_r hca1 hfr2
  refine lv_icmp_eq C0.1 C0.2.1 (tgt := 1064) dL_law_591 (by decide) (fun _ => ?_) (fun z => absurd rfl z)
  exact K t2 h2 H2 locs2 ls ⟨hW2, X1, Y1, rl1, ST1, F2, G2, A2, B2, hca2, hCI1, hra2, hRI2⟩ hR2 hS2 hl
theorem lw_c_form (C : lw_X l D aa p s m meth c b Ln xs) (hi : i + 6 ≤ Ln) (K : lw_go p l e s m below meth c b D aa 1064 i) : lw_go p l e s m below meth c b D aa 596 i := by
  intro t h H locs ls hinv hR hS hl
  obtain ⟨hW, X, Y, rl, ST, F, G, A, B, hca, hCI, hra, hRI⟩ := hinv
  have C0 := C.1
  have hown : s.vm.findClass RL = some m.cls := C0.2.2.2.2.1
  refine lv_aload_n C0.1 C0.2.1 dL_law_596 rfl (lv_at hl 1 rfl) ?_
  refine lw_ld (k := 1) C hS (lv_at hl 0 rfl) (lv_at hl 3 rfl) (by omega) dL_law_597 dL_law_598 dL_law_599 (by decide) dL_law_600 dL_law_601 ?_
  refine lw_ld (k := 2) C hS (lv_at hl 0 rfl) (lv_at hl 3 rfl) (by omega) dL_law_602 dL_law_603 dL_law_604 (by decide) dL_law_605 dL_law_606 ?_
  refine lw_ld (k := 3) C hS (lv_at hl 0 rfl) (lv_at hl 3 rfl) (by omega) dL_law_607 dL_law_608 dL_law_609 (by decide) dL_law_610 dL_law_611 ?_
  obtain ⟨t2, Ph, hW2, hJC, hJR⟩ := J_form hW (xs (i + 1)) (xs (i + 2)) (xs (i + 3))
  refine lw_callV (st0 := [.int (xs (i + 3)), .int (xs (i + 2)), .int (xs (i + 1)), .ref 0]) (rest := []) (As := [.int (xs (i + 1)), .int (xs (i + 2)), .int (xs (i + 3))]) (ci := 11) C dL_law_612 zc_L_68 zs_X11_form zz_clX11 (cm_o0 hca) rfl rfl (Nat.le_of_ble_eq_true rfl) (Nat.le_of_ble_eq_true rfl) (Nat.le_of_ble_eq_true rfl) (hJC _ _ _ _ _ _ _ _ _ hca hCI) (Nat.le_refl _) (Nat.le_refl _) hR hS hl.1 (fun r h1 H1 locs1 hq hR1 hS1 => ?_)
  obtain ⟨⟨x, hPh, rfl⟩, X1, Y1, rl1, ST1, hca1, hfr, hCI1⟩ := hq
  have hra1 := rm_at_c hra hfr
  refine lv_aload_n C0.1 C0.2.1 dL_law_615 rfl (lv_at hl 2 rfl) ?_
  refine lw_ld (k := 1) C hS1 (lv_at hl 0 rfl) (lv_at hl 3 rfl) (by omega) dL_law_616 dL_law_617 dL_law_618 (by decide) dL_law_619 dL_law_620 ?_
  refine lw_ld (k := 2) C hS1 (lv_at hl 0 rfl) (lv_at hl 3 rfl) (by omega) dL_law_621 dL_law_622 dL_law_623 (by decide) dL_law_624 dL_law_625 ?_
  refine lw_ld (k := 3) C hS1 (lv_at hl 0 rfl) (lv_at hl 3 rfl) (by omega) dL_law_626 dL_law_627 dL_law_628 (by decide) dL_law_629 dL_law_630 ?_
  refine lw_callV (st0 := [.int (xs (i + 3)), .int (xs (i + 2)), .int (xs (i + 1)), .ref 169, .int x]) (rest := [.int x]) (As := [.int (xs (i + 1)), .int (xs (i + 2)), .int (xs (i + 3))]) (ci := 12) C dL_law_631 zc_L_71 zs_X12_form zz_cl hra1.1 rfl rfl (Nat.le_of_ble_eq_true rfl) (Nat.le_of_ble_eq_true rfl) (Nat.le_of_ble_eq_true rfl) (hJR x hPh _ _ _ _ _ _ _ _ _ hra1 hRI) (Nat.le_refl _) (Nat.le_refl _) hR1 hS1 hl.1 (fun r h2 H2 locs2 hq hR2 hS2 => ?_)
  obtain ⟨rfl, F2, G2, A2, B2, hra2, hfr2, hRI2⟩ := hq
  have hca2 := cm_at_r hca1 hfr2
  refine lv_icmp_eq C0.1 C0.2.1 (tgt := 1064) dL_law_634 (by decide) (fun _ => ?_) (fun z => absurd rfl z)
  exact K t2 h2 H2 locs2 ls ⟨hW2, X1, Y1, rl1, ST1, F2, G2, A2, B2, hca2, hCI1, hra2, hRI2⟩ hR2 hS2 hl
theorem lw_c_value (C : lw_X l D aa p s m meth c b Ln xs) (hi : i + 6 ≤ Ln) (K : lw_go p l e s m below meth c b D aa 1064 i) : lw_go p l e s m below meth c b D aa 639 i := by
  intro t h H locs ls hinv hR hS hl
  obtain ⟨hW, X, Y, rl, ST, F, G, A, B, hca, hCI, hra, hRI⟩ := hinv
  have C0 := C.1
  have hown : s.vm.findClass RL = some m.cls := C0.2.2.2.2.1
  refine lv_aload_n C0.1 C0.2.1 dL_law_639 rfl (lv_at hl 1 rfl) ?_
  refine lw_ld (k := 1) C hS (lv_at hl 0 rfl) (lv_at hl 3 rfl) (by omega) dL_law_640 dL_law_641 dL_law_642 (by decide) dL_law_643 dL_law_644 ?_
  refine lw_ld (k := 2) C hS (lv_at hl 0 rfl) (lv_at hl 3 rfl) (by omega) dL_law_645 dL_law_646 dL_law_647 (by decide) dL_law_648 dL_law_649 ?_
  refine lw_ld (k := 3) C hS (lv_at hl 0 rfl) (lv_at hl 3 rfl) (by omega) dL_law_650 dL_law_651 dL_law_652 (by decide) dL_law_653 dL_law_654 ?_
  obtain ⟨t2, Ph, hW2, hJC, hJR⟩ := J_value hW (xs (i + 1)) (xs (i + 2)) (xs (i + 3))
  refine lw_callV (st0 := [.int (xs (i + 3)), .int (xs (i + 2)), .int (xs (i + 1)), .ref 0]) (rest := []) (As := [.int (xs (i + 1)), .int (xs (i + 2)), .int (xs (i + 3))]) (ci := 11) C dL_law_655 zc_L_72 zs_X11_value zz_clX11 (cm_o0 hca) rfl rfl (Nat.le_of_ble_eq_true rfl) (Nat.le_of_ble_eq_true rfl) (Nat.le_of_ble_eq_true rfl) (hJC _ _ _ _ _ _ _ _ _ hca hCI) (Nat.le_refl _) (Nat.le_refl _) hR hS hl.1 (fun r h1 H1 locs1 hq hR1 hS1 => ?_)
  obtain ⟨⟨x, hPh, rfl⟩, X1, Y1, rl1, ST1, hca1, hfr, hCI1⟩ := hq
  have hra1 := rm_at_c hra hfr
  refine lv_aload_n C0.1 C0.2.1 dL_law_658 rfl (lv_at hl 2 rfl) ?_
  refine lw_ld (k := 1) C hS1 (lv_at hl 0 rfl) (lv_at hl 3 rfl) (by omega) dL_law_659 dL_law_660 dL_law_661 (by decide) dL_law_662 dL_law_663 ?_
  refine lw_ld (k := 2) C hS1 (lv_at hl 0 rfl) (lv_at hl 3 rfl) (by omega) dL_law_664 dL_law_665 dL_law_666 (by decide) dL_law_667 dL_law_668 ?_
  refine lw_ld (k := 3) C hS1 (lv_at hl 0 rfl) (lv_at hl 3 rfl) (by omega) dL_law_669 dL_law_670 dL_law_671 (by decide) dL_law_672 dL_law_673 ?_
  refine lw_callV (st0 := [.int (xs (i + 3)), .int (xs (i + 2)), .int (xs (i + 1)), .ref 169, .int x]) (rest := [.int x]) (As := [.int (xs (i + 1)), .int (xs (i + 2)), .int (xs (i + 3))]) (ci := 12) C dL_law_674 zc_L_75 zs_X12_value zz_cl hra1.1 rfl rfl (Nat.le_of_ble_eq_true rfl) (Nat.le_of_ble_eq_true rfl) (Nat.le_of_ble_eq_true rfl) (hJR x hPh _ _ _ _ _ _ _ _ _ hra1 hRI) (Nat.le_refl _) (Nat.le_refl _) hR1 hS1 hl.1 (fun r h2 H2 locs2 hq hR2 hS2 => ?_)
  obtain ⟨rfl, F2, G2, A2, B2, hra2, hfr2, hRI2⟩ := hq
  have hca2 := cm_at_r hca1 hfr2
  refine lv_icmp_eq C0.1 C0.2.1 (tgt := 1064) dL_law_677 (by decide) (fun _ => ?_) (fun z => absurd rfl z)
  exact K t2 h2 H2 locs2 ls ⟨hW2, X1, Y1, rl1, ST1, F2, G2, A2, B2, hca2, hCI1, hra2, hRI2⟩ hR2 hS2 hl
theorem lw_c_pick (C : lw_X l D aa p s m meth c b Ln xs) (hi : i + 6 ≤ Ln) (K : lw_go p l e s m below meth c b D aa 1064 i) : lw_go p l e s m below meth c b D aa 682 i := by
  intro t h H locs ls hinv hR hS hl
  obtain ⟨hW, X, Y, rl, ST, F, G, A, B, hca, hCI, hra, hRI⟩ := hinv
  have C0 := C.1
  have hown : s.vm.findClass RL = some m.cls := C0.2.2.2.2.1
  refine lv_aload_n C0.1 C0.2.1 dL_law_682 rfl (lv_at hl 1 rfl) ?_
  refine lw_ld (k := 1) C hS (lv_at hl 0 rfl) (lv_at hl 3 rfl) (by omega) dL_law_683 dL_law_684 dL_law_685 (by decide) dL_law_686 dL_law_687 ?_
  refine lw_ld (k := 2) C hS (lv_at hl 0 rfl) (lv_at hl 3 rfl) (by omega) dL_law_688 dL_law_689 dL_law_690 (by decide) dL_law_691 dL_law_692 ?_
  obtain ⟨t2, Ph, hW2, hJC, hJR⟩ := J_pick hW (xs (i + 1)) (xs (i + 2))
  refine lw_callV (st0 := [.int (xs (i + 2)), .int (xs (i + 1)), .ref 0]) (rest := []) (As := [.int (xs (i + 1)), .int (xs (i + 2))]) (ci := 11) C dL_law_693 zc_L_76 zs_X11_pick zz_clX11 (cm_o0 hca) rfl rfl (Nat.le_of_ble_eq_true rfl) (Nat.le_of_ble_eq_true rfl) (Nat.le_of_ble_eq_true rfl) (hJC _ _ _ _ _ _ _ _ _ hca hCI) (Nat.le_refl _) (Nat.le_refl _) hR hS hl.1 (fun r h1 H1 locs1 hq hR1 hS1 => ?_)
  obtain ⟨⟨x, hPh, rfl⟩, X1, Y1, rl1, ST1, hca1, hfr, hCI1⟩ := hq
  have hra1 := rm_at_c hra hfr
  refine lv_aload_n C0.1 C0.2.1 dL_law_696 rfl (lv_at hl 2 rfl) ?_
  refine lw_ld (k := 1) C hS1 (lv_at hl 0 rfl) (lv_at hl 3 rfl) (by omega) dL_law_697 dL_law_698 dL_law_699 (by decide) dL_law_700 dL_law_701 ?_
  refine lw_ld (k := 2) C hS1 (lv_at hl 0 rfl) (lv_at hl 3 rfl) (by omega) dL_law_702 dL_law_703 dL_law_704 (by decide) dL_law_705 dL_law_706 ?_
  refine lw_callV (st0 := [.int (xs (i + 2)), .int (xs (i + 1)), .ref 169, .int x]) (rest := [.int x]) (As := [.int (xs (i + 1)), .int (xs (i + 2))]) (ci := 12) C dL_law_707 zc_L_79 zs_X12_pick zz_cl hra1.1 rfl rfl (Nat.le_of_ble_eq_true rfl) (Nat.le_of_ble_eq_true rfl) (Nat.le_of_ble_eq_true rfl) (hJR x hPh _ _ _ _ _ _ _ _ _ hra1 hRI) (Nat.le_refl _) (Nat.le_refl _) hR1 hS1 hl.1 (fun r h2 H2 locs2 hq hR2 hS2 => ?_)
  obtain ⟨rfl, F2, G2, A2, B2, hra2, hfr2, hRI2⟩ := hq
  have hca2 := cm_at_r hca1 hfr2
  refine lv_icmp_eq C0.1 C0.2.1 (tgt := 1064) dL_law_710 (by decide) (fun _ => ?_) (fun z => absurd rfl z)
  exact K t2 h2 H2 locs2 ls ⟨hW2, X1, Y1, rl1, ST1, F2, G2, A2, B2, hca2, hCI1, hra2, hRI2⟩ hR2 hS2 hl
theorem lw_c_time (C : lw_X l D aa p s m meth c b Ln xs) (hi : i + 6 ≤ Ln) (K : lw_go p l e s m below meth c b D aa 1064 i) : lw_go p l e s m below meth c b D aa 715 i := by
  intro t h H locs ls hinv hR hS hl
  obtain ⟨hW, X, Y, rl, ST, F, G, A, B, hca, hCI, hra, hRI⟩ := hinv
  have C0 := C.1
  have hown : s.vm.findClass RL = some m.cls := C0.2.2.2.2.1
  refine lv_aload_n C0.1 C0.2.1 dL_law_715 rfl (lv_at hl 1 rfl) ?_
  refine lw_ld (k := 1) C hS (lv_at hl 0 rfl) (lv_at hl 3 rfl) (by omega) dL_law_716 dL_law_717 dL_law_718 (by decide) dL_law_719 dL_law_720 ?_
  refine lw_ld (k := 2) C hS (lv_at hl 0 rfl) (lv_at hl 3 rfl) (by omega) dL_law_721 dL_law_722 dL_law_723 (by decide) dL_law_724 dL_law_725 ?_
  refine lw_ld (k := 3) C hS (lv_at hl 0 rfl) (lv_at hl 3 rfl) (by omega) dL_law_726 dL_law_727 dL_law_728 (by decide) dL_law_729 dL_law_730 ?_
  obtain ⟨t2, x, hW2, hJC, hJR⟩ := J_time hW (xs (i + 1)) (xs (i + 2)) (xs (i + 3))
  refine lw_callV (st0 := [.int (xs (i + 3)), .int (xs (i + 2)), .int (xs (i + 1)), .ref 0]) (rest := []) (As := [.int (xs (i + 1)), .int (xs (i + 2)), .int (xs (i + 3))]) (ci := 11) C dL_law_731 zc_L_80 zs_X11_time zz_clX11 (cm_o0 hca) rfl rfl (Nat.le_of_ble_eq_true rfl) (Nat.le_of_ble_eq_true rfl) (Nat.le_of_ble_eq_true rfl) (hJC _ _ _ _ _ _ _ _ _ hca hCI) (Nat.le_refl _) (Nat.le_refl _) hR hS hl.1 (fun r h1 H1 locs1 hq hR1 hS1 => ?_)
  obtain ⟨rfl, X1, Y1, rl1, ST1, hca1, hfr, hCI1⟩ := hq
  have hra1 := rm_at_c hra hfr
  refine lv_aload_n C0.1 C0.2.1 dL_law_734 rfl (lv_at hl 2 rfl) ?_
  refine lw_ld (k := 1) C hS1 (lv_at hl 0 rfl) (lv_at hl 3 rfl) (by omega) dL_law_735 dL_law_736 dL_law_737 (by decide) dL_law_738 dL_law_739 ?_
  refine lw_ld (k := 2) C hS1 (lv_at hl 0 rfl) (lv_at hl 3 rfl) (by omega) dL_law_740 dL_law_741 dL_law_742 (by decide) dL_law_743 dL_law_744 ?_
  refine lw_ld (k := 3) C hS1 (lv_at hl 0 rfl) (lv_at hl 3 rfl) (by omega) dL_law_745 dL_law_746 dL_law_747 (by decide) dL_law_748 dL_law_749 ?_
  refine lw_callV (st0 := [.int (xs (i + 3)), .int (xs (i + 2)), .int (xs (i + 1)), .ref 169, .long x]) (rest := [.long x]) (As := [.int (xs (i + 1)), .int (xs (i + 2)), .int (xs (i + 3))]) (ci := 12) C dL_law_750 zc_L_84 zs_X12_time zz_cl hra1.1 rfl rfl (Nat.le_of_ble_eq_true rfl) (Nat.le_of_ble_eq_true rfl) (Nat.le_of_ble_eq_true rfl) (hJR _ _ _ _ _ _ _ _ _ hra1 hRI) (Nat.le_refl _) (Nat.le_refl _) hR1 hS1 hl.1 (fun r h2 H2 locs2 hq hR2 hS2 => ?_)
  obtain ⟨rfl, F2, G2, A2, B2, hra2, hfr2, hRI2⟩ := hq
  have hca2 := cm_at_r hca1 hfr2
  refine W.lcmp (x := x) (y := x) C0.1 C0.2.1 dL_law_753 ?_
  refine lv_if_eq C0.1 C0.2.1 (tgt := 1064) dL_law_754 (by decide) (fun _ => ?_) (fun z => absurd (lg_self x) z)
  exact K t2 h2 H2 locs2 ls ⟨hW2, X1, Y1, rl1, ST1, F2, G2, A2, B2, hca2, hCI1, hra2, hRI2⟩ hR2 hS2 hl
theorem lw_c_at (C : lw_X l D aa p s m meth c b Ln xs) (hi : i + 6 ≤ Ln) (K : lw_go p l e s m below meth c b D aa 1064 i) : lw_go p l e s m below meth c b D aa 759 i := by
  intro t h H locs ls hinv hR hS hl
  obtain ⟨hW, X, Y, rl, ST, F, G, A, B, hca, hCI, hra, hRI⟩ := hinv
  have C0 := C.1
  have hown : s.vm.findClass RL = some m.cls := C0.2.2.2.2.1
  refine lv_aload_n C0.1 C0.2.1 dL_law_759 rfl (lv_at hl 1 rfl) ?_
  refine lw_ld (k := 1) C hS (lv_at hl 0 rfl) (lv_at hl 3 rfl) (by omega) dL_law_760 dL_law_761 dL_law_762 (by decide) dL_law_763 dL_law_764 ?_
  refine lw_ld (k := 2) C hS (lv_at hl 0 rfl) (lv_at hl 3 rfl) (by omega) dL_law_765 dL_law_766 dL_law_767 (by decide) dL_law_768 dL_law_769 ?_
  refine lw_ld (k := 3) C hS (lv_at hl 0 rfl) (lv_at hl 3 rfl) (by omega) dL_law_770 dL_law_771 dL_law_772 (by decide) dL_law_773 dL_law_774 ?_
  obtain ⟨t2, Ph, hW2, hJC, hJR⟩ := J_at hW (xs (i + 1)) (xs (i + 2)) (xs (i + 3))
  refine lw_callV (st0 := [.int (xs (i + 3)), .int (xs (i + 2)), .int (xs (i + 1)), .ref 0]) (rest := []) (As := [.int (xs (i + 1)), .int (xs (i + 2)), .int (xs (i + 3))]) (ci := 11) C dL_law_775 zc_L_85 zs_X11_at zz_clX11 (cm_o0 hca) rfl rfl (Nat.le_of_ble_eq_true rfl) (Nat.le_of_ble_eq_true rfl) (Nat.le_of_ble_eq_true rfl) (hJC _ _ _ _ _ _ _ _ _ hca hCI) (Nat.le_refl _) (Nat.le_refl _) hR hS hl.1 (fun r h1 H1 locs1 hq hR1 hS1 => ?_)
  obtain ⟨⟨x, hPh, rfl⟩, X1, Y1, rl1, ST1, hca1, hfr, hCI1⟩ := hq
  have hra1 := rm_at_c hra hfr
  refine lv_aload_n C0.1 C0.2.1 dL_law_778 rfl (lv_at hl 2 rfl) ?_
  refine lw_ld (k := 1) C hS1 (lv_at hl 0 rfl) (lv_at hl 3 rfl) (by omega) dL_law_779 dL_law_780 dL_law_781 (by decide) dL_law_782 dL_law_783 ?_
  refine lw_ld (k := 2) C hS1 (lv_at hl 0 rfl) (lv_at hl 3 rfl) (by omega) dL_law_784 dL_law_785 dL_law_786 (by decide) dL_law_787 dL_law_788 ?_
  refine lw_ld (k := 3) C hS1 (lv_at hl 0 rfl) (lv_at hl 3 rfl) (by omega) dL_law_789 dL_law_790 dL_law_791 (by decide) dL_law_792 dL_law_793 ?_
  refine lw_callV (st0 := [.int (xs (i + 3)), .int (xs (i + 2)), .int (xs (i + 1)), .ref 169, .int x]) (rest := [.int x]) (As := [.int (xs (i + 1)), .int (xs (i + 2)), .int (xs (i + 3))]) (ci := 12) C dL_law_794 zc_L_88 zs_X12_at zz_cl hra1.1 rfl rfl (Nat.le_of_ble_eq_true rfl) (Nat.le_of_ble_eq_true rfl) (Nat.le_of_ble_eq_true rfl) (hJR x hPh _ _ _ _ _ _ _ _ _ hra1 hRI) (Nat.le_refl _) (Nat.le_refl _) hR1 hS1 hl.1 (fun r h2 H2 locs2 hq hR2 hS2 => ?_)
  obtain ⟨rfl, F2, G2, A2, B2, hra2, hfr2, hRI2⟩ := hq
  have hca2 := cm_at_r hca1 hfr2
  refine lv_icmp_eq C0.1 C0.2.1 (tgt := 1064) dL_law_797 (by decide) (fun _ => ?_) (fun z => absurd rfl z)
  exact K t2 h2 H2 locs2 ls ⟨hW2, X1, Y1, rl1, ST1, F2, G2, A2, B2, hca2, hCI1, hra2, hRI2⟩ hR2 hS2 hl
theorem lw_c_together (C : lw_X l D aa p s m meth c b Ln xs) (hi : i + 6 ≤ Ln) (K : lw_go p l e s m below meth c b D aa 1064 i) : lw_go p l e s m below meth c b D aa 802 i := by
  intro t h H locs ls hinv hR hS hl
  obtain ⟨hW, X, Y, rl, ST, F, G, A, B, hca, hCI, hra, hRI⟩ := hinv
  have C0 := C.1
  have hown : s.vm.findClass RL = some m.cls := C0.2.2.2.2.1
  refine lv_aload_n C0.1 C0.2.1 dL_law_802 rfl (lv_at hl 1 rfl) ?_
  obtain ⟨t2, Ph, hW2, hJC, hJR⟩ := J_together hW 
  refine lw_callV (st0 := [.ref 0]) (rest := []) (As := []) (ci := 11) C dL_law_803 zc_L_89 zs_X11_together zz_clX11 (cm_o0 hca) rfl rfl (Nat.le_of_ble_eq_true rfl) (Nat.le_of_ble_eq_true rfl) (Nat.le_of_ble_eq_true rfl) (hJC _ _ _ _ _ _ _ _ _ hca hCI) (Nat.le_refl _) (Nat.le_refl _) hR hS hl.1 (fun r h1 H1 locs1 hq hR1 hS1 => ?_)
  obtain ⟨⟨x, hPh, rfl⟩, X1, Y1, rl1, ST1, hca1, hfr, hCI1⟩ := hq
  have hra1 := rm_at_c hra hfr
  refine lv_aload_n C0.1 C0.2.1 dL_law_806 rfl (lv_at hl 2 rfl) ?_
  refine lw_callV (st0 := [.ref 169, .int x]) (rest := [.int x]) (As := []) (ci := 12) C dL_law_807 zc_L_93 zs_X12_together zz_cl hra1.1 rfl rfl (Nat.le_of_ble_eq_true rfl) (Nat.le_of_ble_eq_true rfl) (Nat.le_of_ble_eq_true rfl) (hJR x hPh _ _ _ _ _ _ _ _ _ hra1 hRI) (Nat.le_refl _) (Nat.le_refl _) hR1 hS1 hl.1 (fun r h2 H2 locs2 hq hR2 hS2 => ?_)
  obtain ⟨rfl, F2, G2, A2, B2, hra2, hfr2, hRI2⟩ := hq
  have hca2 := cm_at_r hca1 hfr2
  refine lv_icmp_eq C0.1 C0.2.1 (tgt := 1064) dL_law_810 (by decide) (fun _ => ?_) (fun z => absurd rfl z)
  exact K t2 h2 H2 locs2 ls ⟨hW2, X1, Y1, rl1, ST1, F2, G2, A2, B2, hca2, hCI1, hra2, hRI2⟩ hR2 hS2 hl
theorem lw_c_meet (C : lw_X l D aa p s m meth c b Ln xs) (hi : i + 6 ≤ Ln) (K : lw_go p l e s m below meth c b D aa 1064 i) : lw_go p l e s m below meth c b D aa 815 i := by
  intro t h H locs ls hinv hR hS hl
  obtain ⟨hW, X, Y, rl, ST, F, G, A, B, hca, hCI, hra, hRI⟩ := hinv
  have C0 := C.1
  have hown : s.vm.findClass RL = some m.cls := C0.2.2.2.2.1
  refine lv_aload_n C0.1 C0.2.1 dL_law_815 rfl (lv_at hl 1 rfl) ?_
  refine lw_ld (k := 1) C hS (lv_at hl 0 rfl) (lv_at hl 3 rfl) (by omega) dL_law_816 dL_law_817 dL_law_818 (by decide) dL_law_819 dL_law_820 ?_
  refine lw_ld (k := 2) C hS (lv_at hl 0 rfl) (lv_at hl 3 rfl) (by omega) dL_law_821 dL_law_822 dL_law_823 (by decide) dL_law_824 dL_law_825 ?_
  refine lw_ld (k := 3) C hS (lv_at hl 0 rfl) (lv_at hl 3 rfl) (by omega) dL_law_826 dL_law_827 dL_law_828 (by decide) dL_law_829 dL_law_830 ?_
  obtain ⟨t2, Ph, hW2, hJC, hJR⟩ := J_meet hW (xs (i + 1)) (xs (i + 2)) (xs (i + 3))
  refine lw_callV (st0 := [.int (xs (i + 3)), .int (xs (i + 2)), .int (xs (i + 1)), .ref 0]) (rest := []) (As := [.int (xs (i + 1)), .int (xs (i + 2)), .int (xs (i + 3))]) (ci := 11) C dL_law_831 zc_L_94 zs_X11_meet zz_clX11 (cm_o0 hca) rfl rfl (Nat.le_of_ble_eq_true rfl) (Nat.le_of_ble_eq_true rfl) (Nat.le_of_ble_eq_true rfl) (hJC _ _ _ _ _ _ _ _ _ hca hCI) (Nat.le_refl _) (Nat.le_refl _) hR hS hl.1 (fun r h1 H1 locs1 hq hR1 hS1 => ?_)
  obtain ⟨⟨x, hPh, rfl⟩, X1, Y1, rl1, ST1, hca1, hfr, hCI1⟩ := hq
  have hra1 := rm_at_c hra hfr
  refine lv_aload_n C0.1 C0.2.1 dL_law_834 rfl (lv_at hl 2 rfl) ?_
  refine lw_ld (k := 1) C hS1 (lv_at hl 0 rfl) (lv_at hl 3 rfl) (by omega) dL_law_835 dL_law_836 dL_law_837 (by decide) dL_law_838 dL_law_839 ?_
  refine lw_ld (k := 2) C hS1 (lv_at hl 0 rfl) (lv_at hl 3 rfl) (by omega) dL_law_840 dL_law_841 dL_law_842 (by decide) dL_law_843 dL_law_844 ?_
  refine lw_ld (k := 3) C hS1 (lv_at hl 0 rfl) (lv_at hl 3 rfl) (by omega) dL_law_845 dL_law_846 dL_law_847 (by decide) dL_law_848 dL_law_849 ?_
  refine lw_callV (st0 := [.int (xs (i + 3)), .int (xs (i + 2)), .int (xs (i + 1)), .ref 169, .int x]) (rest := [.int x]) (As := [.int (xs (i + 1)), .int (xs (i + 2)), .int (xs (i + 3))]) (ci := 12) C dL_law_850 zc_L_97 zs_X12_meet zz_cl hra1.1 rfl rfl (Nat.le_of_ble_eq_true rfl) (Nat.le_of_ble_eq_true rfl) (Nat.le_of_ble_eq_true rfl) (hJR x hPh _ _ _ _ _ _ _ _ _ hra1 hRI) (Nat.le_refl _) (Nat.le_refl _) hR1 hS1 hl.1 (fun r h2 H2 locs2 hq hR2 hS2 => ?_)
  obtain ⟨rfl, F2, G2, A2, B2, hra2, hfr2, hRI2⟩ := hq
  have hca2 := cm_at_r hca1 hfr2
  refine lv_icmp_eq C0.1 C0.2.1 (tgt := 1064) dL_law_853 (by decide) (fun _ => ?_) (fun z => absurd rfl z)
  exact K t2 h2 H2 locs2 ls ⟨hW2, X1, Y1, rl1, ST1, F2, G2, A2, B2, hca2, hCI1, hra2, hRI2⟩ hR2 hS2 hl
theorem lw_c_canon (C : lw_X l D aa p s m meth c b Ln xs) (hi : i + 6 ≤ Ln) (K : lw_go p l e s m below meth c b D aa 1064 i) : lw_go p l e s m below meth c b D aa 858 i := by
  intro t h H locs ls hinv hR hS hl
  obtain ⟨hW, X, Y, rl, ST, F, G, A, B, hca, hCI, hra, hRI⟩ := hinv
  have C0 := C.1
  have hown : s.vm.findClass RL = some m.cls := C0.2.2.2.2.1
  refine lv_aload_n C0.1 C0.2.1 dL_law_858 rfl (lv_at hl 1 rfl) ?_
  refine lw_ld (k := 1) C hS (lv_at hl 0 rfl) (lv_at hl 3 rfl) (by omega) dL_law_859 dL_law_860 dL_law_861 (by decide) dL_law_862 dL_law_863 ?_
  refine lw_ld (k := 2) C hS (lv_at hl 0 rfl) (lv_at hl 3 rfl) (by omega) dL_law_864 dL_law_865 dL_law_866 (by decide) dL_law_867 dL_law_868 ?_
  refine lw_ld (k := 3) C hS (lv_at hl 0 rfl) (lv_at hl 3 rfl) (by omega) dL_law_869 dL_law_870 dL_law_871 (by decide) dL_law_872 dL_law_873 ?_
  refine lw_ld (k := 4) C hS (lv_at hl 0 rfl) (lv_at hl 3 rfl) (by omega) dL_law_874 dL_law_875 dL_law_876 (by decide) dL_law_877 dL_law_878 ?_
  obtain ⟨t2, Ph, hW2, hJC, hJR⟩ := J_canon hW (xs (i + 1)) (xs (i + 2)) (xs (i + 3)) (xs (i + 4))
  refine lw_callV (st0 := [.int (xs (i + 4)), .int (xs (i + 3)), .int (xs (i + 2)), .int (xs (i + 1)), .ref 0]) (rest := []) (As := [.int (xs (i + 1)), .int (xs (i + 2)), .int (xs (i + 3)), .int (xs (i + 4))]) (ci := 11) C dL_law_879 zc_L_98 zs_X11_canon zz_clX11 (cm_o0 hca) rfl rfl (Nat.le_of_ble_eq_true rfl) (Nat.le_of_ble_eq_true rfl) (Nat.le_of_ble_eq_true rfl) (hJC _ _ _ _ _ _ _ _ _ hca hCI) (Nat.le_refl _) (Nat.le_refl _) hR hS hl.1 (fun r h1 H1 locs1 hq hR1 hS1 => ?_)
  obtain ⟨⟨x, hPh, rfl⟩, X1, Y1, rl1, ST1, hca1, hfr, hCI1⟩ := hq
  have hra1 := rm_at_c hra hfr
  refine lv_aload_n C0.1 C0.2.1 dL_law_882 rfl (lv_at hl 2 rfl) ?_
  refine lw_ld (k := 1) C hS1 (lv_at hl 0 rfl) (lv_at hl 3 rfl) (by omega) dL_law_883 dL_law_884 dL_law_885 (by decide) dL_law_886 dL_law_887 ?_
  refine lw_ld (k := 2) C hS1 (lv_at hl 0 rfl) (lv_at hl 3 rfl) (by omega) dL_law_888 dL_law_889 dL_law_890 (by decide) dL_law_891 dL_law_892 ?_
  refine lw_ld (k := 3) C hS1 (lv_at hl 0 rfl) (lv_at hl 3 rfl) (by omega) dL_law_893 dL_law_894 dL_law_895 (by decide) dL_law_896 dL_law_897 ?_
  refine lw_ld (k := 4) C hS1 (lv_at hl 0 rfl) (lv_at hl 3 rfl) (by omega) dL_law_898 dL_law_899 dL_law_900 (by decide) dL_law_901 dL_law_902 ?_
  refine lw_callV (st0 := [.int (xs (i + 4)), .int (xs (i + 3)), .int (xs (i + 2)), .int (xs (i + 1)), .ref 169, .int x]) (rest := [.int x]) (As := [.int (xs (i + 1)), .int (xs (i + 2)), .int (xs (i + 3)), .int (xs (i + 4))]) (ci := 12) C dL_law_903 zc_L_102 zs_X12_canon zz_cl hra1.1 rfl rfl (Nat.le_of_ble_eq_true rfl) (Nat.le_of_ble_eq_true rfl) (Nat.le_of_ble_eq_true rfl) (hJR x hPh _ _ _ _ _ _ _ _ _ hra1 hRI) (Nat.le_refl _) (Nat.le_refl _) hR1 hS1 hl.1 (fun r h2 H2 locs2 hq hR2 hS2 => ?_)
  obtain ⟨rfl, F2, G2, A2, B2, hra2, hfr2, hRI2⟩ := hq
  have hca2 := cm_at_r hca1 hfr2
  refine lv_icmp_eq C0.1 C0.2.1 (tgt := 1064) dL_law_906 (by decide) (fun _ => ?_) (fun z => absurd rfl z)
  exact K t2 h2 H2 locs2 ls ⟨hW2, X1, Y1, rl1, ST1, F2, G2, A2, B2, hca2, hCI1, hra2, hRI2⟩ hR2 hS2 hl
theorem lw_c_follower (C : lw_X l D aa p s m meth c b Ln xs) (hi : i + 6 ≤ Ln) (K : lw_go p l e s m below meth c b D aa 1064 i) : lw_go p l e s m below meth c b D aa 911 i := by
  intro t h H locs ls hinv hR hS hl
  obtain ⟨hW, X, Y, rl, ST, F, G, A, B, hca, hCI, hra, hRI⟩ := hinv
  have C0 := C.1
  have hown : s.vm.findClass RL = some m.cls := C0.2.2.2.2.1
  refine lv_aload_n C0.1 C0.2.1 dL_law_911 rfl (lv_at hl 1 rfl) ?_
  refine lw_ld (k := 1) C hS (lv_at hl 0 rfl) (lv_at hl 3 rfl) (by omega) dL_law_912 dL_law_913 dL_law_914 (by decide) dL_law_915 dL_law_916 ?_
  refine lw_ld (k := 2) C hS (lv_at hl 0 rfl) (lv_at hl 3 rfl) (by omega) dL_law_917 dL_law_918 dL_law_919 (by decide) dL_law_920 dL_law_921 ?_
  refine lw_ld (k := 3) C hS (lv_at hl 0 rfl) (lv_at hl 3 rfl) (by omega) dL_law_922 dL_law_923 dL_law_924 (by decide) dL_law_925 dL_law_926 ?_
  obtain ⟨t2, x, hW2, hJC, hJR⟩ := J_follower hW (xs (i + 1)) (xs (i + 2)) (xs (i + 3))
  refine lw_callV (st0 := [.int (xs (i + 3)), .int (xs (i + 2)), .int (xs (i + 1)), .ref 0]) (rest := []) (As := [.int (xs (i + 1)), .int (xs (i + 2)), .int (xs (i + 3))]) (ci := 11) C dL_law_927 zc_L_103 zs_X11_follower zz_clX11 (cm_o0 hca) rfl rfl (Nat.le_of_ble_eq_true rfl) (Nat.le_of_ble_eq_true rfl) (Nat.le_of_ble_eq_true rfl) (hJC _ _ _ _ _ _ _ _ _ hca hCI) (Nat.le_refl _) (Nat.le_refl _) hR hS hl.1 (fun r h1 H1 locs1 hq hR1 hS1 => ?_)
  obtain ⟨rfl, X1, Y1, rl1, ST1, hca1, hfr, hCI1⟩ := hq
  have hra1 := rm_at_c hra hfr
  refine lv_aload_n C0.1 C0.2.1 dL_law_930 rfl (lv_at hl 2 rfl) ?_
  refine lw_ld (k := 1) C hS1 (lv_at hl 0 rfl) (lv_at hl 3 rfl) (by omega) dL_law_931 dL_law_932 dL_law_933 (by decide) dL_law_934 dL_law_935 ?_
  refine lw_ld (k := 2) C hS1 (lv_at hl 0 rfl) (lv_at hl 3 rfl) (by omega) dL_law_936 dL_law_937 dL_law_938 (by decide) dL_law_939 dL_law_940 ?_
  refine lw_ld (k := 3) C hS1 (lv_at hl 0 rfl) (lv_at hl 3 rfl) (by omega) dL_law_941 dL_law_942 dL_law_943 (by decide) dL_law_944 dL_law_945 ?_
  refine lw_callV (st0 := [.int (xs (i + 3)), .int (xs (i + 2)), .int (xs (i + 1)), .ref 169, .long x]) (rest := [.long x]) (As := [.int (xs (i + 1)), .int (xs (i + 2)), .int (xs (i + 3))]) (ci := 12) C dL_law_946 zc_L_106 zs_X12_follower zz_cl hra1.1 rfl rfl (Nat.le_of_ble_eq_true rfl) (Nat.le_of_ble_eq_true rfl) (Nat.le_of_ble_eq_true rfl) (hJR _ _ _ _ _ _ _ _ _ hra1 hRI) (Nat.le_refl _) (Nat.le_refl _) hR1 hS1 hl.1 (fun r h2 H2 locs2 hq hR2 hS2 => ?_)
  obtain ⟨rfl, F2, G2, A2, B2, hra2, hfr2, hRI2⟩ := hq
  have hca2 := cm_at_r hca1 hfr2
  refine W.lcmp (x := x) (y := x) C0.1 C0.2.1 dL_law_949 ?_
  refine lv_if_eq C0.1 C0.2.1 (tgt := 1064) dL_law_950 (by decide) (fun _ => ?_) (fun z => absurd (lg_self x) z)
  exact K t2 h2 H2 locs2 ls ⟨hW2, X1, Y1, rl1, ST1, F2, G2, A2, B2, hca2, hCI1, hra2, hRI2⟩ hR2 hS2 hl
theorem lw_c_write (C : lw_X l D aa p s m meth c b Ln xs) (hi : i + 6 ≤ Ln) (K : lw_go p l e s m below meth c b D aa 1064 i) : lw_go p l e s m below meth c b D aa 955 i := by
  intro t h H locs ls hinv hR hS hl
  obtain ⟨hW, X, Y, rl, ST, F, G, A, B, hca, hCI, hra, hRI⟩ := hinv
  have C0 := C.1
  have hown : s.vm.findClass RL = some m.cls := C0.2.2.2.2.1
  refine lv_aload_n C0.1 C0.2.1 dL_law_955 rfl (lv_at hl 1 rfl) ?_
  refine lw_ld (k := 1) C hS (lv_at hl 0 rfl) (lv_at hl 3 rfl) (by omega) dL_law_956 dL_law_957 dL_law_958 (by decide) dL_law_959 dL_law_960 ?_
  refine lw_ld (k := 2) C hS (lv_at hl 0 rfl) (lv_at hl 3 rfl) (by omega) dL_law_961 dL_law_962 dL_law_963 (by decide) dL_law_964 dL_law_965 ?_
  refine lw_ld (k := 3) C hS (lv_at hl 0 rfl) (lv_at hl 3 rfl) (by omega) dL_law_966 dL_law_967 dL_law_968 (by decide) dL_law_969 dL_law_970 ?_
  refine lw_ld (k := 4) C hS (lv_at hl 0 rfl) (lv_at hl 3 rfl) (by omega) dL_law_971 dL_law_972 dL_law_973 (by decide) dL_law_974 dL_law_975 ?_
  refine lw_ld (k := 5) C hS (lv_at hl 0 rfl) (lv_at hl 3 rfl) (by omega) dL_law_976 dL_law_977 dL_law_978 (by decide) dL_law_979 dL_law_980 ?_
  obtain ⟨t2, Ph, hW2, hJC, hJR⟩ := J_write hW (xs (i + 1)) (xs (i + 2)) (xs (i + 3)) (xs (i + 4)) (xs (i + 5))
  refine lw_callV (st0 := [.int (xs (i + 5)), .int (xs (i + 4)), .int (xs (i + 3)), .int (xs (i + 2)), .int (xs (i + 1)), .ref 0]) (rest := []) (As := [.int (xs (i + 1)), .int (xs (i + 2)), .int (xs (i + 3)), .int (xs (i + 4)), .int (xs (i + 5))]) (ci := 11) C dL_law_981 zc_L_107 zs_X11_write zz_clX11 (cm_o0 hca) rfl rfl (Nat.le_of_ble_eq_true rfl) (Nat.le_of_ble_eq_true rfl) (Nat.le_of_ble_eq_true rfl) (hJC _ _ _ _ _ _ _ _ _ hca hCI) (Nat.le_refl _) (Nat.le_refl _) hR hS hl.1 (fun r h1 H1 locs1 hq hR1 hS1 => ?_)
  obtain ⟨⟨x, hPh, rfl⟩, X1, Y1, rl1, ST1, hca1, hfr, hCI1⟩ := hq
  have hra1 := rm_at_c hra hfr
  refine lv_aload_n C0.1 C0.2.1 dL_law_984 rfl (lv_at hl 2 rfl) ?_
  refine lw_ld (k := 1) C hS1 (lv_at hl 0 rfl) (lv_at hl 3 rfl) (by omega) dL_law_985 dL_law_986 dL_law_987 (by decide) dL_law_988 dL_law_989 ?_
  refine lw_ld (k := 2) C hS1 (lv_at hl 0 rfl) (lv_at hl 3 rfl) (by omega) dL_law_990 dL_law_991 dL_law_992 (by decide) dL_law_993 dL_law_994 ?_
  refine lw_ld (k := 3) C hS1 (lv_at hl 0 rfl) (lv_at hl 3 rfl) (by omega) dL_law_995 dL_law_996 dL_law_997 (by decide) dL_law_998 dL_law_999 ?_
  refine lw_ld (k := 4) C hS1 (lv_at hl 0 rfl) (lv_at hl 3 rfl) (by omega) dL_law_1000 dL_law_1001 dL_law_1002 (by decide) dL_law_1003 dL_law_1004 ?_
  refine lw_ld (k := 5) C hS1 (lv_at hl 0 rfl) (lv_at hl 3 rfl) (by omega) dL_law_1005 dL_law_1006 dL_law_1007 (by decide) dL_law_1008 dL_law_1009 ?_
  refine lw_callV (st0 := [.int (xs (i + 5)), .int (xs (i + 4)), .int (xs (i + 3)), .int (xs (i + 2)), .int (xs (i + 1)), .ref 169, .int x]) (rest := [.int x]) (As := [.int (xs (i + 1)), .int (xs (i + 2)), .int (xs (i + 3)), .int (xs (i + 4)), .int (xs (i + 5))]) (ci := 12) C dL_law_1010 zc_L_111 zs_X12_write zz_cl hra1.1 rfl rfl (Nat.le_of_ble_eq_true rfl) (Nat.le_of_ble_eq_true rfl) (Nat.le_of_ble_eq_true rfl) (hJR x hPh _ _ _ _ _ _ _ _ _ hra1 hRI) (Nat.le_refl _) (Nat.le_refl _) hR1 hS1 hl.1 (fun r h2 H2 locs2 hq hR2 hS2 => ?_)
  obtain ⟨rfl, F2, G2, A2, B2, hra2, hfr2, hRI2⟩ := hq
  have hca2 := cm_at_r hca1 hfr2
  refine lv_icmp_eq C0.1 C0.2.1 (tgt := 1064) dL_law_1013 (by decide) (fun _ => ?_) (fun z => absurd rfl z)
  exact K t2 h2 H2 locs2 ls ⟨hW2, X1, Y1, rl1, ST1, F2, G2, A2, B2, hca2, hCI1, hra2, hRI2⟩ hR2 hS2 hl
theorem lw_c_written (C : lw_X l D aa p s m meth c b Ln xs) (hi : i + 6 ≤ Ln) (K : lw_go p l e s m below meth c b D aa 1064 i) : lw_go p l e s m below meth c b D aa 1018 i := by
  intro t h H locs ls hinv hR hS hl
  obtain ⟨hW, X, Y, rl, ST, F, G, A, B, hca, hCI, hra, hRI⟩ := hinv
  have C0 := C.1
  have hown : s.vm.findClass RL = some m.cls := C0.2.2.2.2.1
  refine lv_aload_n C0.1 C0.2.1 dL_law_1018 rfl (lv_at hl 1 rfl) ?_
  refine lw_ld (k := 1) C hS (lv_at hl 0 rfl) (lv_at hl 3 rfl) (by omega) dL_law_1019 dL_law_1020 dL_law_1021 (by decide) dL_law_1022 dL_law_1023 ?_
  obtain ⟨t2, Ph, hW2, hJC, hJR⟩ := J_written hW (xs (i + 1))
  refine lw_callV (st0 := [.int (xs (i + 1)), .ref 0]) (rest := []) (As := [.int (xs (i + 1))]) (ci := 11) C dL_law_1024 zc_L_112 zs_X11_written zz_clX11 (cm_o0 hca) rfl rfl (Nat.le_of_ble_eq_true rfl) (Nat.le_of_ble_eq_true rfl) (Nat.le_of_ble_eq_true rfl) (hJC _ _ _ _ _ _ _ _ _ hca hCI) (Nat.le_refl _) (Nat.le_refl _) hR hS hl.1 (fun r h1 H1 locs1 hq hR1 hS1 => ?_)
  obtain ⟨⟨x, hPh, rfl⟩, X1, Y1, rl1, ST1, hca1, hfr, hCI1⟩ := hq
  have hra1 := rm_at_c hra hfr
  refine lv_aload_n C0.1 C0.2.1 dL_law_1027 rfl (lv_at hl 2 rfl) ?_
  refine lw_ld (k := 1) C hS1 (lv_at hl 0 rfl) (lv_at hl 3 rfl) (by omega) dL_law_1028 dL_law_1029 dL_law_1030 (by decide) dL_law_1031 dL_law_1032 ?_
  refine lw_callV (st0 := [.int (xs (i + 1)), .ref 169, .int x]) (rest := [.int x]) (As := [.int (xs (i + 1))]) (ci := 12) C dL_law_1033 zc_L_115 zs_X12_written zz_cl hra1.1 rfl rfl (Nat.le_of_ble_eq_true rfl) (Nat.le_of_ble_eq_true rfl) (Nat.le_of_ble_eq_true rfl) (hJR x hPh _ _ _ _ _ _ _ _ _ hra1 hRI) (Nat.le_refl _) (Nat.le_refl _) hR1 hS1 hl.1 (fun r h2 H2 locs2 hq hR2 hS2 => ?_)
  obtain ⟨rfl, F2, G2, A2, B2, hra2, hfr2, hRI2⟩ := hq
  have hca2 := cm_at_r hca1 hfr2
  refine lv_icmp_eq C0.1 C0.2.1 (tgt := 1064) dL_law_1036 (by decide) (fun _ => ?_) (fun z => absurd rfl z)
  exact K t2 h2 H2 locs2 ls ⟨hW2, X1, Y1, rl1, ST1, F2, G2, A2, B2, hca2, hCI1, hra2, hRI2⟩ hR2 hS2 hl
theorem lw_c_count (C : lw_X l D aa p s m meth c b Ln xs) (hi : i + 6 ≤ Ln) (K : lw_go p l e s m below meth c b D aa 1064 i) : lw_go p l e s m below meth c b D aa 1041 i := by
  intro t h H locs ls hinv hR hS hl
  obtain ⟨hW, X, Y, rl, ST, F, G, A, B, hca, hCI, hra, hRI⟩ := hinv
  have C0 := C.1
  have hown : s.vm.findClass RL = some m.cls := C0.2.2.2.2.1
  refine lv_aload_n C0.1 C0.2.1 dL_law_1041 rfl (lv_at hl 1 rfl) ?_
  refine lw_ld (k := 1) C hS (lv_at hl 0 rfl) (lv_at hl 3 rfl) (by omega) dL_law_1042 dL_law_1043 dL_law_1044 (by decide) dL_law_1045 dL_law_1046 ?_
  obtain ⟨t2, Ph, hW2, hJC, hJR⟩ := J_count hW (xs (i + 1))
  refine lw_callV (st0 := [.int (xs (i + 1)), .ref 0]) (rest := []) (As := [.int (xs (i + 1))]) (ci := 11) C dL_law_1047 zc_L_116 zs_X11_count zz_clX11 (cm_o0 hca) rfl rfl (Nat.le_of_ble_eq_true rfl) (Nat.le_of_ble_eq_true rfl) (Nat.le_of_ble_eq_true rfl) (hJC _ _ _ _ _ _ _ _ _ hca hCI) (Nat.le_refl _) (Nat.le_refl _) hR hS hl.1 (fun r h1 H1 locs1 hq hR1 hS1 => ?_)
  obtain ⟨⟨x, hPh, rfl⟩, X1, Y1, rl1, ST1, hca1, hfr, hCI1⟩ := hq
  have hra1 := rm_at_c hra hfr
  refine lv_aload_n C0.1 C0.2.1 dL_law_1050 rfl (lv_at hl 2 rfl) ?_
  refine lw_ld (k := 1) C hS1 (lv_at hl 0 rfl) (lv_at hl 3 rfl) (by omega) dL_law_1051 dL_law_1052 dL_law_1053 (by decide) dL_law_1054 dL_law_1055 ?_
  refine lw_callV (st0 := [.int (xs (i + 1)), .ref 169, .int x]) (rest := [.int x]) (As := [.int (xs (i + 1))]) (ci := 12) C dL_law_1056 zc_L_119 zs_X12_count zz_cl hra1.1 rfl rfl (Nat.le_of_ble_eq_true rfl) (Nat.le_of_ble_eq_true rfl) (Nat.le_of_ble_eq_true rfl) (hJR x hPh _ _ _ _ _ _ _ _ _ hra1 hRI) (Nat.le_refl _) (Nat.le_refl _) hR1 hS1 hl.1 (fun r h2 H2 locs2 hq hR2 hS2 => ?_)
  obtain ⟨rfl, F2, G2, A2, B2, hra2, hfr2, hRI2⟩ := hq
  have hca2 := cm_at_r hca1 hfr2
  refine lv_icmp_eq C0.1 C0.2.1 (tgt := 1064) dL_law_1059 (by decide) (fun _ => ?_) (fun z => absurd rfl z)
  exact K t2 h2 H2 locs2 ls ⟨hW2, X1, Y1, rl1, ST1, F2, G2, A2, B2, hca2, hCI1, hra2, hRI2⟩ hR2 hS2 hl
end LWC
