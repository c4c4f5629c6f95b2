set_option maxRecDepth 100000 in
set_option maxHeartbeats 4000000 in
theorem tm_scanUnit {l : Launch} {D : va_G} {aa : Nat → ClassId} {b0 : Nat} {h : mm_H} {o : Nat} {F : Nat → Int32} {G : Nat → Int64} {A : Nat → Nat → Int32} {B : Nat → Nat → Int64} (ha : rm_at o F G A B h) {w : ro_w} {sg g : Nat} {T : Nat → Nat} (hx0 : cx_at F A w sg g T) {S Sf : sc_S} (hs : sc_at F S) {k a b : Nat} (hk : k < 7) (hab : a < b) (hb : b ≤ 24) (hSf : List.foldl sc_step S (sp_unit w sg T k a b) = Sf) : mm_V (zz_K l D aa b0) 3 yX12_scanUnit cX12_scanUnit 6 none 0 [(0, .ref (o)), (1, .int (nI (k))), (2, .int (nI (a))), (3, .int (nI (b)))] [] h 0 0 (fun r h' => r = none ∧ ∃ F' : Nat → Int32, rm_at o F' G A B h' ∧ rm_fr o h h' ∧ sc_at F' Sf ∧ sc_F F F') := by
  have hf0 : rm_fr o h h := rm_fr.rf
  have hF0 : sc_F F F := sc_F.rf
  have K252 : sp_perf sg k = true → ∀ (S : sc_S), List.foldl sc_step S (sp_per w T k a b false ++ (if ro_dot w (b - 1) = true then sp_per w T k a (b - 1) true else [])) = Sf → ∀ (F1 : Nat → Int32) (h1 : mm_H), rm_at o F1 G A B h1 → rm_fr o h h1 → sc_F F F1 → sc_at F1 S → mm_V (zz_K l D aa b0) 3 yX12_scanUnit cX12_scanUnit 6 none 252 [(0, .ref (o)), (1, .int (nI (k))), (2, .int (nI (a))), (3, .int (nI (b)))] [] h1 0 0 (fun r h' => r = none ∧ ∃ F' : Nat → Int32, rm_at o F' G A B h' ∧ rm_fr o h h' ∧ sc_at F' Sf ∧ sc_F F F') := by
    intro hpf
    intro S hS F1 h1 ha hf hF hs
    have hx := cx_F hF hx0
    have hw := hx.1
    have ht := hx.2.2.2.1
    have hk4 : k < 4 := by unfold sp_perf at hpf; simp_all
    rw [List.foldl_append] at hS
    refine mm_aload_n dX12_scanUnit_252 rfl 0 rfl ?_
    refine mm_iload_n dX12_scanUnit_253 rfl 1 rfl ?_
    refine mm_iload_n dX12_scanUnit_254 rfl 2 rfl ?_
    refine mm_iload_n dX12_scanUnit_255 rfl 3 rfl ?_
    refine mm_iconst (v := nI 0) dX12_scanUnit_256 (by decide) ?_
    refine rm_callV (As := [.int (nI (k)), .int (nI (a)), .int (nI (b)), .int (nI (0))]) (rest := []) (d2 := 2) dX12_scanUnit_257 ha zc_scanPerfect zc_scanPerfect_s rfl rfl rfl (Nat.le_of_ble_eq_true rfl) (Nat.le_of_ble_eq_true rfl) (by decide) (tm_scanPerfect (dot := false) ha hx hs (by omega) (by omega) (by omega) (by omega) rfl) (fun r h1 hq => ?_)
    obtain ⟨rfl, F1, ha, hf', hs, hF'⟩ := hq
    have hf := hf.tr hf'
    have hF := hF.tr hF'
    have hx := cx_F hF hx0
    have hw := hx.1
    have ht := hx.2.2.2.1
    refine mm_aload_n dX12_scanUnit_260 rfl 0 rfl ?_
    refine mm_iload_n dX12_scanUnit_261 rfl 3 rfl ?_
    refine mm_iconst (v := nI 1) dX12_scanUnit_262 (by decide) ?_
    refine mn_isub dX12_scanUnit_263 (by omega) ?_
    refine rm_callVr (As := [.int (nI ((b) - (1)))]) (rest := []) (d2 := 0) dX12_scanUnit_264 ha zc_isDot zc_isDot_s rfl rfl rfl (Nat.le_of_ble_eq_true rfl) (Nat.le_of_ble_eq_true rfl) (by decide) (tm_isDot ha hw (by omega)) ?_
    refine mn_ifB_eq (tgt := 280) dX12_scanUnit_267 (by decide) (fun c267 => ?_) (fun c267 => ?_)
    · rw [if_neg (by rw [c267]; decide)] at hS
      exact mm_vret dX12_scanUnit_280 rfl (⟨rfl, _, ha, hf, by rw [← hS]; exact hs, hF⟩)
    · rw [if_pos c267] at hS
      have hb1 : 1 ≤ b - 1 := Nat.pos_of_ne_zero (fun z => absurd (c267.symm.trans ((congrArg (ro_dot w) z).trans hx.2.2.2.2)) (by decide))
      refine mm_aload_n dX12_scanUnit_270 rfl 0 rfl ?_
      refine mm_iload_n dX12_scanUnit_271 rfl 1 rfl ?_
      refine mm_iload_n dX12_scanUnit_272 rfl 2 rfl ?_
      refine mm_iload_n dX12_scanUnit_273 rfl 3 rfl ?_
      refine mm_iconst (v := nI 1) dX12_scanUnit_274 (by decide) ?_
      refine mn_isub dX12_scanUnit_275 (by omega) ?_
      refine mm_iconst (v := nI 1) dX12_scanUnit_276 (by decide) ?_
      refine rm_callV (As := [.int (nI (k)), .int (nI (a)), .int (nI ((b) - (1))), .int (nI (1))]) (rest := []) (d2 := 2) dX12_scanUnit_277 ha zc_scanPerfect zc_scanPerfect_s rfl rfl rfl (Nat.le_of_ble_eq_true rfl) (Nat.le_of_ble_eq_true rfl) (by decide) (tm_scanPerfect (dot := true) ha hx hs (by omega) (by omega) (by omega) (by omega) rfl) (fun r h1 hq => ?_)
      obtain ⟨rfl, F1, ha, hf', hs, hF'⟩ := hq
      have hf := hf.tr hf'
      have hF := hF.tr hF'
      have hx := cx_F hF hx0
      have hw := hx.1
      have ht := hx.2.2.2.1
      exact mm_vret dX12_scanUnit_280 rfl (⟨rfl, _, ha, hf, by rw [← hS]; exact hs, hF⟩)
  have K220 : sp_perf sg k = true → ∀ (S : sc_S), List.foldl sc_step S ((2, 0, 0, true, Bool.toNat (ro_rest w a k && ro_dot w (a + 1))) :: (sp_per w T k a b false ++ (if ro_dot w (b - 1) = true then sp_per w T k a (b - 1) true else []))) = Sf → ∀ (F1 : Nat → Int32) (h1 : mm_H), rm_at o F1 G A B h1 → rm_fr o h h1 → sc_F F F1 → sc_at F1 S → mm_V (zz_K l D aa b0) 3 yX12_scanUnit cX12_scanUnit 6 none 220 [(0, .ref (o)), (1, .int (nI (k))), (2, .int (nI (a))), (3, .int (nI (b)))] [] h1 0 0 (fun r h' => r = none ∧ ∃ F' : Nat → Int32, rm_at o F' G A B h' ∧ rm_fr o h h' ∧ sc_at F' Sf ∧ sc_F F F') := by
    intro hpf
    intro S hS F1 h1 ha hf hF hs
    have hx := cx_F hF hx0
    have hw := hx.1
    have ht := hx.2.2.2.1
    refine mm_aload_n dX12_scanUnit_220 rfl 0 rfl ?_
    refine mm_iconst (v := nI 2) dX12_scanUnit_221 (by decide) ?_
    refine mm_iconst (v := nI 0) dX12_scanUnit_222 (by decide) ?_
    refine mm_iconst (v := nI 0) dX12_scanUnit_223 (by decide) ?_
    refine mm_iconst (v := nI 1) dX12_scanUnit_224 (by decide) ?_
    refine mm_aload_n dX12_scanUnit_225 rfl 0 rfl ?_
    refine mm_iload_n dX12_scanUnit_226 rfl 2 rfl ?_
    refine mm_iload_n dX12_scanUnit_227 rfl 1 rfl ?_
    refine rm_callVr (As := [.int (nI (a)), .int (nI (k))]) (rest := [.int (nI (1)), .int (nI (0)), .int (nI (0)), .int (nI (2)), .ref (o)]) (d2 := 0) dX12_scanUnit_228 ha zc_isRest zc_isRest_s rfl rfl rfl (Nat.le_of_ble_eq_true rfl) (Nat.le_of_ble_eq_true rfl) (by decide) (tm_isRest ha hw (by omega) (by omega)) ?_
    refine mn_ifB_eq (tgt := 248) dX12_scanUnit_231 (by decide) (fun c231 => ?_) (fun c231 => ?_)
    · refine mm_lconst (v := lN 0) dX12_scanUnit_248 (by decide) ?_
      refine rm_callV (As := [.int (nI (2)), .int (nI (0)), .int (nI (0)), .int (nI (1)), .long (lN (0))]) (rest := []) (d2 := 1) dX12_scanUnit_249 ha zc_offer zc_offer_s rfl rfl rfl (Nat.le_of_ble_eq_true rfl) (Nat.le_of_ble_eq_true rfl) (by decide) (tm_offer (form := 2) (cut := 0) (cut2 := 0) (dot := true) (n := 0) ha hs (by omega)) (fun r h1 hq => ?_)
      obtain ⟨rfl, F1, ha, hf', hs, hF'⟩ := hq
      have hf := hf.tr hf'
      have hF := hF.tr hF'
      have hx := cx_F hF hx0
      have hw := hx.1
      have ht := hx.2.2.2.1
      have e : Bool.toNat (ro_rest w a k && ro_dot w (a + 1)) = 0 := by first | (rw [c231, c241]; rfl) | (rw [c231]; rfl)
      exact K252 hpf _ (by rw [e] at hS; first | exact hS | (rw [e]; exact hS)) _ _ ha hf hF hs
    · refine mm_aload_n dX12_scanUnit_234 rfl 0 rfl ?_
      refine mm_iload_n dX12_scanUnit_235 rfl 2 rfl ?_
      refine mm_iconst (v := nI 1) dX12_scanUnit_236 (by decide) ?_
      refine mn_iadd dX12_scanUnit_237 ?_
      refine rm_callVr (As := [.int (nI ((a) + (1)))]) (rest := [.int (nI (1)), .int (nI (0)), .int (nI (0)), .int (nI (2)), .ref (o)]) (d2 := 0) dX12_scanUnit_238 ha zc_isDot zc_isDot_s rfl rfl rfl (Nat.le_of_ble_eq_true rfl) (Nat.le_of_ble_eq_true rfl) (by decide) (tm_isDot ha hw (by omega)) ?_
      refine mn_ifB_eq (tgt := 248) dX12_scanUnit_241 (by decide) (fun c241 => ?_) (fun c241 => ?_)
      · refine mm_lconst (v := lN 0) dX12_scanUnit_248 (by decide) ?_
        refine rm_callV (As := [.int (nI (2)), .int (nI (0)), .int (nI (0)), .int (nI (1)), .long (lN (0))]) (rest := []) (d2 := 1) dX12_scanUnit_249 ha zc_offer zc_offer_s rfl rfl rfl (Nat.le_of_ble_eq_true rfl) (Nat.le_of_ble_eq_true rfl) (by decide) (tm_offer (form := 2) (cut := 0) (cut2 := 0) (dot := true) (n := 0) ha hs (by omega)) (fun r h1 hq => ?_)
        obtain ⟨rfl, F1, ha, hf', hs, hF'⟩ := hq
        have hf := hf.tr hf'
        have hF := hF.tr hF'
        have hx := cx_F hF hx0
        have hw := hx.1
        have ht := hx.2.2.2.1
        have e : Bool.toNat (ro_rest w a k && ro_dot w (a + 1)) = 0 := by first | (rw [c231, c241]; rfl) | (rw [c231]; rfl)
        exact K252 hpf _ (by rw [e] at hS; first | exact hS | (rw [e]; exact hS)) _ _ ha hf hF hs
      · refine mm_lconst (v := lN 1) dX12_scanUnit_244 (by decide) ?_
        refine mm_goto (tgt := 249) dX12_scanUnit_245 (by decide) ?_
        refine rm_callV (As := [.int (nI (2)), .int (nI (0)), .int (nI (0)), .int (nI (1)), .long (lN (1))]) (rest := []) (d2 := 1) dX12_scanUnit_249 ha zc_offer zc_offer_s rfl rfl rfl (Nat.le_of_ble_eq_true rfl) (Nat.le_of_ble_eq_true rfl) (by decide) (tm_offer (form := 2) (cut := 0) (cut2 := 0) (dot := true) (n := 1) ha hs (by omega)) (fun r h1 hq => ?_)
        obtain ⟨rfl, F1, ha, hf', hs, hF'⟩ := hq
        have hf := hf.tr hf'
        have hF := hF.tr hF'
        have hx := cx_F hF hx0
        have hw := hx.1
        have ht := hx.2.2.2.1
        have e : Bool.toNat (ro_rest w a k && ro_dot w (a + 1)) = 1 := by first | (rw [c231, c241]; rfl) | (rw [c231]; rfl)
        exact K252 hpf _ (by rw [e] at hS; first | exact hS | (rw [e]; exact hS)) _ _ ha hf hF hs
  have K188 : sp_perf sg k = true → ∀ (S : sc_S), List.foldl sc_step S ((1, 0, 0, true, Bool.toNat (ro_plain w a k && ro_dot w (a + 1))) :: (2, 0, 0, true, Bool.toNat (ro_rest w a k && ro_dot w (a + 1))) :: (sp_per w T k a b false ++ (if ro_dot w (b - 1) = true then sp_per w T k a (b - 1) true else []))) = Sf → ∀ (F1 : Nat → Int32) (h1 : mm_H), rm_at o F1 G A B h1 → rm_fr o h h1 → sc_F F F1 → sc_at F1 S → mm_V (zz_K l D aa b0) 3 yX12_scanUnit cX12_scanUnit 6 none 188 [(0, .ref (o)), (1, .int (nI (k))), (2, .int (nI (a))), (3, .int (nI (b)))] [] h1 0 0 (fun r h' => r = none ∧ ∃ F' : Nat → Int32, rm_at o F' G A B h' ∧ rm_fr o h h' ∧ sc_at F' Sf ∧ sc_F F F') := by
    intro hpf
    intro S hS F1 h1 ha hf hF hs
    have hx := cx_F hF hx0
    have hw := hx.1
    have ht := hx.2.2.2.1
    refine mm_aload_n dX12_scanUnit_188 rfl 0 rfl ?_
    refine mm_iconst (v := nI 1) dX12_scanUnit_189 (by decide) ?_
    refine mm_iconst (v := nI 0) dX12_scanUnit_190 (by decide) ?_
    refine mm_iconst (v := nI 0) dX12_scanUnit_191 (by decide) ?_
    refine mm_iconst (v := nI 1) dX12_scanUnit_192 (by decide) ?_
    refine mm_aload_n dX12_scanUnit_193 rfl 0 rfl ?_
    refine mm_iload_n dX12_scanUnit_194 rfl 2 rfl ?_
    refine mm_iload_n dX12_scanUnit_195 rfl 1 rfl ?_
    refine rm_callVr (As := [.int (nI (a)), .int (nI (k))]) (rest := [.int (nI (1)), .int (nI (0)), .int (nI (0)), .int (nI (1)), .ref (o)]) (d2 := 0) dX12_scanUnit_196 ha zc_isPlain zc_isPlain_s rfl rfl rfl (Nat.le_of_ble_eq_true rfl) (Nat.le_of_ble_eq_true rfl) (by decide) (tm_isPlain ha hw (by omega) (by omega)) ?_
    refine mn_ifB_eq (tgt := 216) dX12_scanUnit_199 (by decide) (fun c199 => ?_) (fun c199 => ?_)
    · refine mm_lconst (v := lN 0) dX12_scanUnit_216 (by decide) ?_
      refine rm_callV (As := [.int (nI (1)), .int (nI (0)), .int (nI (0)), .int (nI (1)), .long (lN (0))]) (rest := []) (d2 := 1) dX12_scanUnit_217 ha zc_offer zc_offer_s rfl rfl rfl (Nat.le_of_ble_eq_true rfl) (Nat.le_of_ble_eq_true rfl) (by decide) (tm_offer (form := 1) (cut := 0) (cut2 := 0) (dot := true) (n := 0) ha hs (by omega)) (fun r h1 hq => ?_)
      obtain ⟨rfl, F1, ha, hf', hs, hF'⟩ := hq
      have hf := hf.tr hf'
      have hF := hF.tr hF'
      have hx := cx_F hF hx0
      have hw := hx.1
      have ht := hx.2.2.2.1
      have e : Bool.toNat (ro_plain w a k && ro_dot w (a + 1)) = 0 := by first | (rw [c199, c209]; rfl) | (rw [c199]; rfl)
      exact K220 hpf _ (by rw [e] at hS; first | exact hS | (rw [e]; exact hS)) _ _ ha hf hF hs
    · refine mm_aload_n dX12_scanUnit_202 rfl 0 rfl ?_
      refine mm_iload_n dX12_scanUnit_203 rfl 2 rfl ?_
      refine mm_iconst (v := nI 1) dX12_scanUnit_204 (by decide) ?_
      refine mn_iadd dX12_scanUnit_205 ?_
      refine rm_callVr (As := [.int (nI ((a) + (1)))]) (rest := [.int (nI (1)), .int (nI (0)), .int (nI (0)), .int (nI (1)), .ref (o)]) (d2 := 0) dX12_scanUnit_206 ha zc_isDot zc_isDot_s rfl rfl rfl (Nat.le_of_ble_eq_true rfl) (Nat.le_of_ble_eq_true rfl) (by decide) (tm_isDot ha hw (by omega)) ?_
      refine mn_ifB_eq (tgt := 216) dX12_scanUnit_209 (by decide) (fun c209 => ?_) (fun c209 => ?_)
      · refine mm_lconst (v := lN 0) dX12_scanUnit_216 (by decide) ?_
        refine rm_callV (As := [.int (nI (1)), .int (nI (0)), .int (nI (0)), .int (nI (1)), .long (lN (0))]) (rest := []) (d2 := 1) dX12_scanUnit_217 ha zc_offer zc_offer_s rfl rfl rfl (Nat.le_of_ble_eq_true rfl) (Nat.le_of_ble_eq_true rfl) (by decide) (tm_offer (form := 1) (cut := 0) (cut2 := 0) (dot := true) (n := 0) ha hs (by omega)) (fun r h1 hq => ?_)
        obtain ⟨rfl, F1, ha, hf', hs, hF'⟩ := hq
        have hf := hf.tr hf'
        have hF := hF.tr hF'
        have hx := cx_F hF hx0
        have hw := hx.1
        have ht := hx.2.2.2.1
        have e : Bool.toNat (ro_plain w a k && ro_dot w (a + 1)) = 0 := by first | (rw [c199, c209]; rfl) | (rw [c199]; rfl)
        exact K220 hpf _ (by rw [e] at hS; first | exact hS | (rw [e]; exact hS)) _ _ ha hf hF hs
      · refine mm_lconst (v := lN 1) dX12_scanUnit_212 (by decide) ?_
        refine mm_goto (tgt := 217) dX12_scanUnit_213 (by decide) ?_
        refine rm_callV (As := [.int (nI (1)), .int (nI (0)), .int (nI (0)), .int (nI (1)), .long (lN (1))]) (rest := []) (d2 := 1) dX12_scanUnit_217 ha zc_offer zc_offer_s rfl rfl rfl (Nat.le_of_ble_eq_true rfl) (Nat.le_of_ble_eq_true rfl) (by decide) (tm_offer (form := 1) (cut := 0) (cut2 := 0) (dot := true) (n := 1) ha hs (by omega)) (fun r h1 hq => ?_)
        obtain ⟨rfl, F1, ha, hf', hs, hF'⟩ := hq
        have hf := hf.tr hf'
        have hF := hF.tr hF'
        have hx := cx_F hF hx0
        have hw := hx.1
        have ht := hx.2.2.2.1
        have e : Bool.toNat (ro_plain w a k && ro_dot w (a + 1)) = 1 := by first | (rw [c199, c209]; rfl) | (rw [c199]; rfl)
        exact K220 hpf _ (by rw [e] at hS; first | exact hS | (rw [e]; exact hS)) _ _ ha hf hF hs
  have K149 : sp_perf sg k = true → ∀ (S : sc_S), List.foldl sc_step S (sp_u3 w k a b ++ (sp_per w T k a b false ++ (if ro_dot w (b - 1) = true then sp_per w T k a (b - 1) true else []))) = Sf → ∀ (F1 : Nat → Int32) (h1 : mm_H), rm_at o F1 G A B h1 → rm_fr o h h1 → sc_F F F1 → sc_at F1 S → mm_V (zz_K l D aa b0) 3 yX12_scanUnit cX12_scanUnit 6 none 149 [(0, .ref (o)), (1, .int (nI (k))), (2, .int (nI (a))), (3, .int (nI (b)))] [] h1 0 0 (fun r h' => r = none ∧ ∃ F' : Nat → Int32, rm_at o F' G A B h' ∧ rm_fr o h h' ∧ sc_at F' Sf ∧ sc_F F F') := by
    intro hpf
    intro S hS F1 h1 ha hf hF hs
    have hx := cx_F hF hx0
    have hw := hx.1
    have ht := hx.2.2.2.1
    unfold sp_u3 at hS
    refine mm_iload_n dX12_scanUnit_149 rfl 3 rfl ?_
    refine mm_iload_n dX12_scanUnit_150 rfl 2 rfl ?_
    refine mm_iconst (v := nI 2) dX12_scanUnit_151 (by decide) ?_
    refine mn_iadd dX12_scanUnit_152 ?_
    refine mn_icmp_ne (tgt := 252) dX12_scanUnit_153 (by decide) (by omega) (by omega) (fun c153 => ?_) (fun c153 => ?_)
    · exact K252 hpf _ (by rw [if_neg c153] at hS; exact hS) _ _ ha hf hF hs
    · rw [if_pos c153] at hS
      refine mm_aload_n dX12_scanUnit_156 rfl 0 rfl ?_
      refine mm_iconst (v := nI 3) dX12_scanUnit_157 (by decide) ?_
      refine mm_iconst (v := nI 0) dX12_scanUnit_158 (by decide) ?_
      refine mm_iconst (v := nI 0) dX12_scanUnit_159 (by decide) ?_
      refine mm_iconst (v := nI 0) dX12_scanUnit_160 (by decide) ?_
      refine mm_aload_n dX12_scanUnit_161 rfl 0 rfl ?_
      refine mm_iload_n dX12_scanUnit_162 rfl 2 rfl ?_
      refine mm_iload_n dX12_scanUnit_163 rfl 1 rfl ?_
      refine rm_callVr (As := [.int (nI (a)), .int (nI (k))]) (rest := [.int (nI (0)), .int (nI (0)), .int (nI (0)), .int (nI (3)), .ref (o)]) (d2 := 0) dX12_scanUnit_164 ha zc_isPlain zc_isPlain_s rfl rfl rfl (Nat.le_of_ble_eq_true rfl) (Nat.le_of_ble_eq_true rfl) (by decide) (tm_isPlain ha hw (by omega) (by omega)) ?_
      refine mn_ifB_eq (tgt := 184) dX12_scanUnit_167 (by decide) (fun c167 => ?_) (fun c167 => ?_)
      · refine mm_lconst (v := lN 0) dX12_scanUnit_184 (by decide) ?_
        refine rm_callV (As := [.int (nI (3)), .int (nI (0)), .int (nI (0)), .int (nI (0)), .long (lN (0))]) (rest := []) (d2 := 1) dX12_scanUnit_185 ha zc_offer zc_offer_s rfl rfl rfl (Nat.le_of_ble_eq_true rfl) (Nat.le_of_ble_eq_true rfl) (by decide) (tm_offer (form := 3) (cut := 0) (cut2 := 0) (dot := false) (n := 0) ha hs (by omega)) (fun r h1 hq => ?_)
        obtain ⟨rfl, F1, ha, hf', hs, hF'⟩ := hq
        have hf := hf.tr hf'
        have hF := hF.tr hF'
        have hx := cx_F hF hx0
        have hw := hx.1
        have ht := hx.2.2.2.1
        have e : Bool.toNat (ro_plain w a k && ro_dot w (a + 1)) = 0 := by first | (rw [c167, c177]; rfl) | (rw [c167]; rfl)
        exact K188 hpf _ (by rw [e] at hS; first | exact hS | (rw [e]; exact hS)) _ _ ha hf hF hs
      · refine mm_aload_n dX12_scanUnit_170 rfl 0 rfl ?_
        refine mm_iload_n dX12_scanUnit_171 rfl 2 rfl ?_
        refine mm_iconst (v := nI 1) dX12_scanUnit_172 (by decide) ?_
        refine mn_iadd dX12_scanUnit_173 ?_
        refine rm_callVr (As := [.int (nI ((a) + (1)))]) (rest := [.int (nI (0)), .int (nI (0)), .int (nI (0)), .int (nI (3)), .ref (o)]) (d2 := 0) dX12_scanUnit_174 ha zc_isDot zc_isDot_s rfl rfl rfl (Nat.le_of_ble_eq_true rfl) (Nat.le_of_ble_eq_true rfl) (by decide) (tm_isDot ha hw (by omega)) ?_
        refine mn_ifB_eq (tgt := 184) dX12_scanUnit_177 (by decide) (fun c177 => ?_) (fun c177 => ?_)
        · refine mm_lconst (v := lN 0) dX12_scanUnit_184 (by decide) ?_
          refine rm_callV (As := [.int (nI (3)), .int (nI (0)), .int (nI (0)), .int (nI (0)), .long (lN (0))]) (rest := []) (d2 := 1) dX12_scanUnit_185 ha zc_offer zc_offer_s rfl rfl rfl (Nat.le_of_ble_eq_true rfl) (Nat.le_of_ble_eq_true rfl) (by decide) (tm_offer (form := 3) (cut := 0) (cut2 := 0) (dot := false) (n := 0) ha hs (by omega)) (fun r h1 hq => ?_)
          obtain ⟨rfl, F1, ha, hf', hs, hF'⟩ := hq
          have hf := hf.tr hf'
          have hF := hF.tr hF'
          have hx := cx_F hF hx0
          have hw := hx.1
          have ht := hx.2.2.2.1
          have e : Bool.toNat (ro_plain w a k && ro_dot w (a + 1)) = 0 := by first | (rw [c167, c177]; rfl) | (rw [c167]; rfl)
          exact K188 hpf _ (by rw [e] at hS; first | exact hS | (rw [e]; exact hS)) _ _ ha hf hF hs
        · refine mm_lconst (v := lN 1) dX12_scanUnit_180 (by decide) ?_
          refine mm_goto (tgt := 185) dX12_scanUnit_181 (by decide) ?_
          refine rm_callV (As := [.int (nI (3)), .int (nI (0)), .int (nI (0)), .int (nI (0)), .long (lN (1))]) (rest := []) (d2 := 1) dX12_scanUnit_185 ha zc_offer zc_offer_s rfl rfl rfl (Nat.le_of_ble_eq_true rfl) (Nat.le_of_ble_eq_true rfl) (by decide) (tm_offer (form := 3) (cut := 0) (cut2 := 0) (dot := false) (n := 1) ha hs (by omega)) (fun r h1 hq => ?_)
          obtain ⟨rfl, F1, ha, hf', hs, hF'⟩ := hq
          have hf := hf.tr hf'
          have hF := hF.tr hF'
          have hx := cx_F hF hx0
          have hw := hx.1
          have ht := hx.2.2.2.1
          have e : Bool.toNat (ro_plain w a k && ro_dot w (a + 1)) = 1 := by first | (rw [c167, c177]; rfl) | (rw [c167]; rfl)
          exact K188 hpf _ (by rw [e] at hS; first | exact hS | (rw [e]; exact hS)) _ _ ha hf hF hs
  have K123 : k < 6 → ∀ (S : sc_S), List.foldl sc_step S ([(5, 0, 0, false, tb_w T 1 (k + 1) a b)]) = Sf → ∀ (F1 : Nat → Int32) (h1 : mm_H), rm_at o F1 G A B h1 → rm_fr o h h1 → sc_F F F1 → sc_at F1 S → mm_V (zz_K l D aa b0) 3 yX12_scanUnit cX12_scanUnit 6 none 123 [(0, .ref (o)), (1, .int (nI (k))), (2, .int (nI (a))), (3, .int (nI (b)))] [] h1 0 0 (fun r h' => r = none ∧ ∃ F' : Nat → Int32, rm_at o F' G A B h' ∧ rm_fr o h h' ∧ sc_at F' Sf ∧ sc_F F F') := by
    intro hk6
    intro S hS F1 h1 ha hf hF hs
    have hx := cx_F hF hx0
    have hw := hx.1
    have ht := hx.2.2.2.1
    refine mm_iload_n dX12_scanUnit_123 rfl 1 rfl ?_
    refine mm_bipush (v := nI 6) dX12_scanUnit_124 (by decide) ?_
    refine mn_icmp_ge (tgt := 148) dX12_scanUnit_126 (by decide) (by omega) (by omega) (fun c126 => ?_) (fun c126 => ?_)
    · omega
    · refine mm_aload_n dX12_scanUnit_129 rfl 0 rfl ?_
      refine mm_iconst (v := nI 5) dX12_scanUnit_130 (by decide) ?_
      refine mm_iconst (v := nI 0) dX12_scanUnit_131 (by decide) ?_
      refine mm_iconst (v := nI 0) dX12_scanUnit_132 (by decide) ?_
      refine mm_iconst (v := nI 0) dX12_scanUnit_133 (by decide) ?_
      refine mm_aload_n dX12_scanUnit_134 rfl 0 rfl ?_
      refine mm_iconst (v := nI 1) dX12_scanUnit_135 (by decide) ?_
      refine mm_iload_n dX12_scanUnit_136 rfl 1 rfl ?_
      refine mm_iconst (v := nI 1) dX12_scanUnit_137 (by decide) ?_
      refine mn_iadd dX12_scanUnit_138 ?_
      refine mm_iload_n dX12_scanUnit_139 rfl 2 rfl ?_
      refine mm_iload_n dX12_scanUnit_140 rfl 3 rfl ?_
      refine rm_callVr (As := [.int (nI (1)), .int (nI ((k) + (1))), .int (nI (a)), .int (nI (b))]) (rest := [.int (nI (0)), .int (nI (0)), .int (nI (0)), .int (nI (5)), .ref (o)]) (d2 := 0) dX12_scanUnit_141 ha zc_waysOf zc_waysOf_s rfl rfl rfl (Nat.le_of_ble_eq_true rfl) (Nat.le_of_ble_eq_true rfl) (by decide) (tm_waysOf ha ht (by omega) (by omega) (by omega) (by omega)) ?_
      have wb141 : tb_w T (1) ((k) + (1)) (a) (b) ≤ 3000 := tb_le ht (by omega) (by omega)
      refine mn_i2l dX12_scanUnit_144 (by omega) ?_
      refine rm_callV (As := [.int (nI (5)), .int (nI (0)), .int (nI (0)), .int (nI (0)), .long (lN (tb_w T (1) ((k) + (1)) (a) (b)))]) (rest := []) (d2 := 1) dX12_scanUnit_145 ha zc_offer zc_offer_s rfl rfl rfl (Nat.le_of_ble_eq_true rfl) (Nat.le_of_ble_eq_true rfl) (by decide) (tm_offer (form := 5) (cut := 0) (cut2 := 0) (dot := false) (n := tb_w T (1) ((k) + (1)) (a) (b)) ha hs (by omega)) (fun r h1 hq => ?_)
      obtain ⟨rfl, F1, ha, hf', hs, hF'⟩ := hq
      have hf := hf.tr hf'
      have hF := hF.tr hF'
      have hx := cx_F hF hx0
      have hw := hx.1
      have ht := hx.2.2.2.1
      exact mm_vret dX12_scanUnit_148 rfl (⟨rfl, _, ha, hf, by rw [← hS]; exact hs, hF⟩)
  have lp4 : ∀ (n j : Nat), b - j ≤ n → a ≤ j ∧ j ≤ b → k < 6 → ∀ (S : sc_S), List.foldl sc_step S ((sp_rg j b).map (sp_4 T k a b) ++ [(5, 0, 0, false, tb_w T 1 (k + 1) a b)]) = Sf → ∀ (F1 : Nat → Int32) (h1 : mm_H), rm_at o F1 G A B h1 → rm_fr o h h1 → sc_F F F1 → sc_at F1 S → mm_V (zz_K l D aa b0) 3 yX12_scanUnit cX12_scanUnit 6 none 71 [(0, .ref (o)), (1, .int (nI (k))), (2, .int (nI (a))), (3, .int (nI (b))), (5, .int (nI (j + 1)))] [] h1 0 0 (fun r h' => r = none ∧ ∃ F' : Nat → Int32, rm_at o F' G A B h' ∧ rm_fr o h h' ∧ sc_at F' Sf ∧ sc_F F F') := by
    intro n
    induction n with
    | zero =>
      intro j hnlp4 hjlp4 hk6 S hS F1 h1 ha hf hF hs
      have hx := cx_F hF hx0
      have hw := hx.1
      have ht := hx.2.2.2.1
      refine mm_iload dX12_scanUnit_71 4 rfl ?_
      refine mm_iload_n dX12_scanUnit_73 rfl 3 rfl ?_
      refine mn_icmp_ge (tgt := 123) dX12_scanUnit_74 (by decide) (by omega) (by omega) (fun c74 => ?_) (fun c74 => ?_)
      · rw [sp_rg_0 (a := j) (by omega)] at hS
        refine mn_sub [0, 1, 2, 3] rfl ?_
        exact K123 hk6 _ (by exact hS) _ _ ha hf hF hs
      · omega
    | succ n ihlp4 =>
      intro j hnlp4 hjlp4 hk6 S hS F1 h1 ha hf hF hs
      have hx := cx_F hF hx0
      have hw := hx.1
      have ht := hx.2.2.2.1
      refine mm_iload dX12_scanUnit_71 4 rfl ?_
      refine mm_iload_n dX12_scanUnit_73 rfl 3 rfl ?_
      refine mn_icmp_ge (tgt := 123) dX12_scanUnit_74 (by decide) (by omega) (by omega) (fun c74 => ?_) (fun c74 => ?_)
      · rw [sp_rg_0 (a := j) (by omega)] at hS
        refine mn_sub [0, 1, 2, 3] rfl ?_
        exact K123 hk6 _ (by exact hS) _ _ ha hf hF hs
      · rw [sp_rg_s (a := j) (by omega)] at hS
        refine mm_iload_n dX12_scanUnit_77 rfl 1 rfl ?_
        refine mm_bipush (v := nI 6) dX12_scanUnit_78 (by decide) ?_
        refine mn_icmp_ge (tgt := 123) dX12_scanUnit_80 (by decide) (by omega) (by omega) (fun c80 => ?_) (fun c80 => ?_)
        · omega
        · refine mm_aload_n dX12_scanUnit_83 rfl 0 rfl ?_
          refine mm_iconst (v := nI 4) dX12_scanUnit_84 (by decide) ?_
          refine mm_iload dX12_scanUnit_85 4 rfl ?_
          refine mm_iconst (v := nI 0) dX12_scanUnit_87 (by decide) ?_
          refine mm_iconst (v := nI 0) dX12_scanUnit_88 (by decide) ?_
          refine mm_aload_n dX12_scanUnit_89 rfl 0 rfl ?_
          refine mm_iconst (v := nI 0) dX12_scanUnit_90 (by decide) ?_
          refine mm_iload_n dX12_scanUnit_91 rfl 1 rfl ?_
          refine mm_iconst (v := nI 1) dX12_scanUnit_92 (by decide) ?_
          refine mn_iadd dX12_scanUnit_93 ?_
          refine mm_iload_n dX12_scanUnit_94 rfl 2 rfl ?_
          refine mm_iload dX12_scanUnit_95 4 rfl ?_
          refine rm_callVr (As := [.int (nI (0)), .int (nI ((k) + (1))), .int (nI (a)), .int (nI (j + 1))]) (rest := [.int (nI (0)), .int (nI (0)), .int (nI (j + 1)), .int (nI (4)), .ref (o)]) (d2 := 0) dX12_scanUnit_97 ha zc_waysOf zc_waysOf_s rfl rfl rfl (Nat.le_of_ble_eq_true rfl) (Nat.le_of_ble_eq_true rfl) (by decide) (tm_waysOf ha ht (by omega) (by omega) (by omega) (by omega)) ?_
          have wb97 : tb_w T (0) ((k) + (1)) (a) (j + 1) ≤ 3000 := tb_le ht (by omega) (by omega)
          refine mn_i2l dX12_scanUnit_100 (by omega) ?_
          refine mm_aload_n dX12_scanUnit_101 rfl 0 rfl ?_
          refine mm_iconst (v := nI 0) dX12_scanUnit_102 (by decide) ?_
          refine mm_iload_n dX12_scanUnit_103 rfl 1 rfl ?_
          refine mm_iconst (v := nI 1) dX12_scanUnit_104 (by decide) ?_
          refine mn_iadd dX12_scanUnit_105 ?_
          refine mm_iload dX12_scanUnit_106 4 rfl ?_
          refine mm_iload_n dX12_scanUnit_108 rfl 3 rfl ?_
          refine rm_callVr (As := [.int (nI (0)), .int (nI ((k) + (1))), .int (nI (j + 1)), .int (nI (b))]) (rest := [.long (lN (tb_w T (0) ((k) + (1)) (a) (j + 1))), .int (nI (0)), .int (nI (0)), .int (nI (j + 1)), .int (nI (4)), .ref (o)]) (d2 := 0) dX12_scanUnit_109 ha zc_waysOf zc_waysOf_s rfl rfl rfl (Nat.le_of_ble_eq_true rfl) (Nat.le_of_ble_eq_true rfl) (by decide) (tm_waysOf ha ht (by omega) (by omega) (by omega) (by omega)) ?_
          have wb109 : tb_w T (0) ((k) + (1)) (j + 1) (b) ≤ 3000 := tb_le ht (by omega) (by omega)
          refine mn_i2l dX12_scanUnit_112 (by omega) ?_
          refine mn_lmul dX12_scanUnit_113 ?_
          have nb := Nat.mul_le_mul wb97 wb109
          refine rm_callV (As := [.int (nI (4)), .int (nI (j + 1)), .int (nI (0)), .int (nI (0)), .long (lN ((tb_w T (0) ((k) + (1)) (a) (j + 1)) * (tb_w T (0) ((k) + (1)) (j + 1) (b))))]) (rest := []) (d2 := 1) dX12_scanUnit_114 ha zc_offer zc_offer_s rfl rfl rfl (Nat.le_of_ble_eq_true rfl) (Nat.le_of_ble_eq_true rfl) (by decide) (tm_offer (form := 4) (cut := j + 1) (cut2 := 0) (dot := false) (n := (tb_w T (0) ((k) + (1)) (a) (j + 1)) * (tb_w T (0) ((k) + (1)) (j + 1) (b))) ha hs (by omega)) (fun r h1 hq => ?_)
          obtain ⟨rfl, F1, ha, hf', hs, hF'⟩ := hq
          have hf := hf.tr hf'
          have hF := hF.tr hF'
          have hx := cx_F hF hx0
          have hw := hx.1
          have ht := hx.2.2.2.1
          refine mn_iinc (m := 1) (L' := [(5, .int (nI (j + 1 + 1))), (0, .ref (o)), (1, .int (nI (k))), (2, .int (nI (a))), (3, .int (nI (b)))]) dX12_scanUnit_117 (by decide) 4 rfl (by decide) rfl ?_
          refine mm_goto (tgt := 71) dX12_scanUnit_120 (by decide) ?_
          refine mn_sub [1, 2, 3, 4, 0] rfl ?_
          exact ihlp4 (j + 1) (by omega) (by omega) hk6 _ (by exact hS) _ _ ha hf hF hs
  have K51 : ∀ (S : sc_S), List.foldl sc_step S ((if sp_perf sg k = false then (if k < 6 then (sp_rg a b).map (sp_4 T k a b) ++ [(5, 0, 0, false, tb_w T 1 (k + 1) a b)] else []) else sp_u3 w k a b ++ (sp_per w T k a b false ++ (if ro_dot w (b - 1) = true then sp_per w T k a (b - 1) true else [])))) = Sf → ∀ (F1 : Nat → Int32) (h1 : mm_H), rm_at o F1 G A B h1 → rm_fr o h h1 → sc_F F F1 → sc_at F1 S → mm_V (zz_K l D aa b0) 3 yX12_scanUnit cX12_scanUnit 6 none 51 [(0, .ref (o)), (1, .int (nI (k))), (2, .int (nI (a))), (3, .int (nI (b)))] [] h1 0 0 (fun r h' => r = none ∧ ∃ F' : Nat → Int32, rm_at o F' G A B h' ∧ rm_fr o h h' ∧ sc_at F' Sf ∧ sc_F F F') := by
    intro S hS F1 h1 ha hf hF hs
    have hx := cx_F hF hx0
    have hw := hx.1
    have ht := hx.2.2.2.1
    refine mm_aload_n dX12_scanUnit_51 rfl 0 rfl ?_
    refine rm_getI 12 dX12_scanUnit_52 ha zf_sign (by decide) rfl rfl ?_
    refine mn_top (u := .int (nI (sg))) (congrArg Value.int ((hx.2.1.1))) ?_
    refine mm_iload_n dX12_scanUnit_55 rfl 1 rfl ?_
    refine rm_callSr (As := [.int (nI (sg)), .int (nI (k))]) (rest := []) (d2 := 0) dX12_scanUnit_56 zc_isPerfect rfl rfl (Nat.le_of_ble_eq_true rfl) (Nat.le_of_ble_eq_true rfl) (by decide) (tm_isPerfect hx.2.1.2 (by omega)) ?_
    refine mm_istore (L' := [(4, .int (nI (Bool.toNat (sp_perf sg (k))))), (0, .ref (o)), (1, .int (nI (k))), (2, .int (nI (a))), (3, .int (nI (b)))]) dX12_scanUnit_59 (by decide) rfl ?_
    refine mm_iload dX12_scanUnit_61 0 rfl ?_
    refine mn_ifB_ne (tgt := 149) dX12_scanUnit_63 (by decide) (fun c63 => ?_) (fun c63 => ?_)
    · refine mn_sub [1, 2, 3, 4] rfl ?_
      exact K149 c63 _ (by rw [if_neg (by rw [c63]; decide)] at hS; exact hS) _ _ ha hf hF hs
    · rw [if_pos c63] at hS
      by_cases hk6 : k < 6
      · rw [if_pos hk6] at hS
        refine mm_iload_n dX12_scanUnit_66 rfl 3 rfl ?_
        refine mm_iconst (v := nI 1) dX12_scanUnit_67 (by decide) ?_
        refine mn_iadd dX12_scanUnit_68 ?_
        refine mm_istore (L' := [(5, .int (nI ((a) + (1)))), (4, .int (nI (Bool.toNat (sp_perf sg (k))))), (0, .ref (o)), (1, .int (nI (k))), (2, .int (nI (a))), (3, .int (nI (b)))]) dX12_scanUnit_69 (by decide) rfl ?_
        refine mn_sub [2, 3, 4, 5, 0] rfl ?_
        exact lp4 b a (by omega) (by omega) hk6 _ (by exact hS) _ _ ha hf hF hs
      · rw [if_neg hk6] at hS
        refine mm_iload_n dX12_scanUnit_66 rfl 3 rfl ?_
        refine mm_iconst (v := nI 1) dX12_scanUnit_67 (by decide) ?_
        refine mn_iadd dX12_scanUnit_68 ?_
        refine mm_istore (L' := [(5, .int (nI ((a) + (1)))), (4, .int (nI (Bool.toNat (sp_perf sg (k))))), (0, .ref (o)), (1, .int (nI (k))), (2, .int (nI (a))), (3, .int (nI (b)))]) dX12_scanUnit_69 (by decide) rfl ?_
        refine mm_iload dX12_scanUnit_71 0 rfl ?_
        refine mm_iload_n dX12_scanUnit_73 rfl 5 rfl ?_
        refine mn_icmp_ge (tgt := 123) dX12_scanUnit_74 (by decide) (by omega) (by omega) (fun c74 => ?_) (fun c74 => ?_)
        · refine mm_iload_n dX12_scanUnit_123 rfl 3 rfl ?_
          refine mm_bipush (v := nI 6) dX12_scanUnit_124 (by decide) ?_
          refine mn_icmp_ge (tgt := 148) dX12_scanUnit_126 (by decide) (by omega) (by omega) (fun c126 => ?_) (fun c126 => ?_)
          · exact mm_vret dX12_scanUnit_148 rfl (⟨rfl, _, ha, hf, by rw [← hS]; exact hs, hF⟩)
          · omega
        · refine mm_iload_n dX12_scanUnit_77 rfl 3 rfl ?_
          refine mm_bipush (v := nI 6) dX12_scanUnit_78 (by decide) ?_
          refine mn_icmp_ge (tgt := 123) dX12_scanUnit_80 (by decide) (by omega) (by omega) (fun c80 => ?_) (fun c80 => ?_)
          · refine mm_iload_n dX12_scanUnit_123 rfl 3 rfl ?_
            refine mm_bipush (v := nI 6) dX12_scanUnit_124 (by decide) ?_
            refine mn_icmp_ge (tgt := 148) dX12_scanUnit_126 (by decide) (by omega) (by omega) (fun c126 => ?_) (fun c126 => ?_)
            · exact mm_vret dX12_scanUnit_148 rfl (⟨rfl, _, ha, hf, by rw [← hS]; exact hs, hF⟩)
            · omega
          · omega
  have K0 : ∀ (S : sc_S), List.foldl sc_step S (sp_unit w sg T k a b) = Sf → ∀ (F1 : Nat → Int32) (h1 : mm_H), rm_at o F1 G A B h1 → rm_fr o h h1 → sc_F F F1 → sc_at F1 S → mm_V (zz_K l D aa b0) 3 yX12_scanUnit cX12_scanUnit 6 none 0 [(0, .ref (o)), (1, .int (nI (k))), (2, .int (nI (a))), (3, .int (nI (b)))] [] h1 0 0 (fun r h' => r = none ∧ ∃ F' : Nat → Int32, rm_at o F' G A B h' ∧ rm_fr o h h' ∧ sc_at F' Sf ∧ sc_F F F') := by
    intro S hS F1 h1 ha hf hF hs
    have hx := cx_F hF hx0
    have hw := hx.1
    have ht := hx.2.2.2.1
    unfold sp_unit sp_u1 at hS
    refine mm_iload_n dX12_scanUnit_0 rfl 3 rfl ?_
    refine mm_iload_n dX12_scanUnit_1 rfl 2 rfl ?_
    refine mm_iconst (v := nI 1) dX12_scanUnit_2 (by decide) ?_
    refine mn_iadd dX12_scanUnit_3 ?_
    refine mn_icmp_ne (tgt := 51) dX12_scanUnit_4 (by decide) (by omega) (by omega) (fun c4 => ?_) (fun c4 => ?_)
    · exact K51  _ (by rw [if_neg c4] at hS; exact hS) _ _ ha hf hF hs
    · rw [if_pos c4] at hS
      refine mm_aload_n dX12_scanUnit_7 rfl 0 rfl ?_
      refine mm_iconst (v := nI 1) dX12_scanUnit_8 (by decide) ?_
      refine mm_iconst (v := nI 0) dX12_scanUnit_9 (by decide) ?_
      refine mm_iconst (v := nI 0) dX12_scanUnit_10 (by decide) ?_
      refine mm_iconst (v := nI 0) dX12_scanUnit_11 (by decide) ?_
      refine mm_aload_n dX12_scanUnit_12 rfl 0 rfl ?_
      refine mm_iload_n dX12_scanUnit_13 rfl 2 rfl ?_
      refine mm_iload_n dX12_scanUnit_14 rfl 1 rfl ?_
      refine rm_callVr (As := [.int (nI (a)), .int (nI (k))]) (rest := [.int (nI (0)), .int (nI (0)), .int (nI (0)), .int (nI (1)), .ref (o)]) (d2 := 0) dX12_scanUnit_15 ha zc_isPlain zc_isPlain_s rfl rfl rfl (Nat.le_of_ble_eq_true rfl) (Nat.le_of_ble_eq_true rfl) (by decide) (tm_isPlain ha hw (by omega) (by omega)) ?_
      refine mn_ifB_eq (tgt := 25) dX12_scanUnit_18 (by decide) (fun c18 => ?_) (fun c18 => ?_)
      · refine mm_lconst (v := lN 0) dX12_scanUnit_25 (by decide) ?_
        refine rm_callV (As := [.int (nI (1)), .int (nI (0)), .int (nI (0)), .int (nI (0)), .long (lN (0))]) (rest := []) (d2 := 1) dX12_scanUnit_26 ha zc_offer zc_offer_s rfl rfl rfl (Nat.le_of_ble_eq_true rfl) (Nat.le_of_ble_eq_true rfl) (by decide) (tm_offer (form := 1) (cut := 0) (cut2 := 0) (dot := false) (n := 0) ha hs (by omega)) (fun r h1 hq => ?_)
        obtain ⟨rfl, F1, ha, hf', hs, hF'⟩ := hq
        have hf := hf.tr hf'
        have hF := hF.tr hF'
        have hx := cx_F hF hx0
        have hw := hx.1
        have ht := hx.2.2.2.1
        refine mm_aload_n dX12_scanUnit_29 rfl 0 rfl ?_
        refine mm_iconst (v := nI 2) dX12_scanUnit_30 (by decide) ?_
        refine mm_iconst (v := nI 0) dX12_scanUnit_31 (by decide) ?_
        refine mm_iconst (v := nI 0) dX12_scanUnit_32 (by decide) ?_
        refine mm_iconst (v := nI 0) dX12_scanUnit_33 (by decide) ?_
        refine mm_aload_n dX12_scanUnit_34 rfl 0 rfl ?_
        refine mm_iload_n dX12_scanUnit_35 rfl 2 rfl ?_
        refine mm_iload_n dX12_scanUnit_36 rfl 1 rfl ?_
        refine rm_callVr (As := [.int (nI (a)), .int (nI (k))]) (rest := [.int (nI (0)), .int (nI (0)), .int (nI (0)), .int (nI (2)), .ref (o)]) (d2 := 0) dX12_scanUnit_37 ha zc_isRest zc_isRest_s rfl rfl rfl (Nat.le_of_ble_eq_true rfl) (Nat.le_of_ble_eq_true rfl) (by decide) (tm_isRest ha hw (by omega) (by omega)) ?_
        refine mn_ifB_eq (tgt := 47) dX12_scanUnit_40 (by decide) (fun c40 => ?_) (fun c40 => ?_)
        · refine mm_lconst (v := lN 0) dX12_scanUnit_47 (by decide) ?_
          refine rm_callV (As := [.int (nI (2)), .int (nI (0)), .int (nI (0)), .int (nI (0)), .long (lN (0))]) (rest := []) (d2 := 1) dX12_scanUnit_48 ha zc_offer zc_offer_s rfl rfl rfl (Nat.le_of_ble_eq_true rfl) (Nat.le_of_ble_eq_true rfl) (by decide) (tm_offer (form := 2) (cut := 0) (cut2 := 0) (dot := false) (n := 0) ha hs (by omega)) (fun r h1 hq => ?_)
          obtain ⟨rfl, F1, ha, hf', hs, hF'⟩ := hq
          have hf := hf.tr hf'
          have hF := hF.tr hF'
          have hx := cx_F hF hx0
          have hw := hx.1
          have ht := hx.2.2.2.1
          exact K51  _ (by rw [c18, c40] at hS; exact hS) _ _ ha hf hF hs
        · refine mm_lconst (v := lN 1) dX12_scanUnit_43 (by decide) ?_
          refine mm_goto (tgt := 48) dX12_scanUnit_44 (by decide) ?_
          refine rm_callV (As := [.int (nI (2)), .int (nI (0)), .int (nI (0)), .int (nI (0)), .long (lN (1))]) (rest := []) (d2 := 1) dX12_scanUnit_48 ha zc_offer zc_offer_s rfl rfl rfl (Nat.le_of_ble_eq_true rfl) (Nat.le_of_ble_eq_true rfl) (by decide) (tm_offer (form := 2) (cut := 0) (cut2 := 0) (dot := false) (n := 1) ha hs (by omega)) (fun r h1 hq => ?_)
          obtain ⟨rfl, F1, ha, hf', hs, hF'⟩ := hq
          have hf := hf.tr hf'
          have hF := hF.tr hF'
          have hx := cx_F hF hx0
          have hw := hx.1
          have ht := hx.2.2.2.1
          exact K51  _ (by rw [c18, c40] at hS; exact hS) _ _ ha hf hF hs
      · refine mm_lconst (v := lN 1) dX12_scanUnit_21 (by decide) ?_
        refine mm_goto (tgt := 26) dX12_scanUnit_22 (by decide) ?_
        refine rm_callV (As := [.int (nI (1)), .int (nI (0)), .int (nI (0)), .int (nI (0)), .long (lN (1))]) (rest := []) (d2 := 1) dX12_scanUnit_26 ha zc_offer zc_offer_s rfl rfl rfl (Nat.le_of_ble_eq_true rfl) (Nat.le_of_ble_eq_true rfl) (by decide) (tm_offer (form := 1) (cut := 0) (cut2 := 0) (dot := false) (n := 1) ha hs (by omega)) (fun r h1 hq => ?_)
        obtain ⟨rfl, F1, ha, hf', hs, hF'⟩ := hq
        have hf := hf.tr hf'
        have hF := hF.tr hF'
        have hx := cx_F hF hx0
        have hw := hx.1
        have ht := hx.2.2.2.1
        refine mm_aload_n dX12_scanUnit_29 rfl 0 rfl ?_
        refine mm_iconst (v := nI 2) dX12_scanUnit_30 (by decide) ?_
        refine mm_iconst (v := nI 0) dX12_scanUnit_31 (by decide) ?_
        refine mm_iconst (v := nI 0) dX12_scanUnit_32 (by decide) ?_
        refine mm_iconst (v := nI 0) dX12_scanUnit_33 (by decide) ?_
        refine mm_aload_n dX12_scanUnit_34 rfl 0 rfl ?_
        refine mm_iload_n dX12_scanUnit_35 rfl 2 rfl ?_
        refine mm_iload_n dX12_scanUnit_36 rfl 1 rfl ?_
        refine rm_callVr (As := [.int (nI (a)), .int (nI (k))]) (rest := [.int (nI (0)), .int (nI (0)), .int (nI (0)), .int (nI (2)), .ref (o)]) (d2 := 0) dX12_scanUnit_37 ha zc_isRest zc_isRest_s rfl rfl rfl (Nat.le_of_ble_eq_true rfl) (Nat.le_of_ble_eq_true rfl) (by decide) (tm_isRest ha hw (by omega) (by omega)) ?_
        refine mn_ifB_eq (tgt := 47) dX12_scanUnit_40 (by decide) (fun c40 => ?_) (fun c40 => ?_)
        · refine mm_lconst (v := lN 0) dX12_scanUnit_47 (by decide) ?_
          refine rm_callV (As := [.int (nI (2)), .int (nI (0)), .int (nI (0)), .int (nI (0)), .long (lN (0))]) (rest := []) (d2 := 1) dX12_scanUnit_48 ha zc_offer zc_offer_s rfl rfl rfl (Nat.le_of_ble_eq_true rfl) (Nat.le_of_ble_eq_true rfl) (by decide) (tm_offer (form := 2) (cut := 0) (cut2 := 0) (dot := false) (n := 0) ha hs (by omega)) (fun r h1 hq => ?_)
          obtain ⟨rfl, F1, ha, hf', hs, hF'⟩ := hq
          have hf := hf.tr hf'
          have hF := hF.tr hF'
          have hx := cx_F hF hx0
          have hw := hx.1
          have ht := hx.2.2.2.1
          exact K51  _ (by rw [c18, c40] at hS; exact hS) _ _ ha hf hF hs
        · refine mm_lconst (v := lN 1) dX12_scanUnit_43 (by decide) ?_
          refine mm_goto (tgt := 48) dX12_scanUnit_44 (by decide) ?_
          refine rm_callV (As := [.int (nI (2)), .int (nI (0)), .int (nI (0)), .int (nI (0)), .long (lN (1))]) (rest := []) (d2 := 1) dX12_scanUnit_48 ha zc_offer zc_offer_s rfl rfl rfl (Nat.le_of_ble_eq_true rfl) (Nat.le_of_ble_eq_true rfl) (by decide) (tm_offer (form := 2) (cut := 0) (cut2 := 0) (dot := false) (n := 1) ha hs (by omega)) (fun r h1 hq => ?_)
          obtain ⟨rfl, F1, ha, hf', hs, hF'⟩ := hq
          have hf := hf.tr hf'
          have hF := hF.tr hF'
          have hx := cx_F hF hx0
          have hw := hx.1
          have ht := hx.2.2.2.1
          exact K51  _ (by rw [c18, c40] at hS; exact hS) _ _ ha hf hF hs
  exact K0 S hSf F h ha hf0 hF0 hs
