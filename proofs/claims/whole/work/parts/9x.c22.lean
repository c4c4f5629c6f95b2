/-! Ratio: set, add; Times -/
set_option maxRecDepth 100000 in
set_option maxHeartbeats 4000000 in
theorem cq_set {l : Launch} {D : va_G} {aa : Nat → ClassId} {b0 : Nat} {h : mm_H} {o : Nat} {X : Nat → Nat → Int32} {Y : Nat → Nat → Int64} {rl : Option Nat} {b u d : Nat} (ha : cm_at o X Y rl h) (hqb : qA b) (hu : u < 2 ^ 63) (hd : d < 2 ^ 63) (hd0 : 0 < d) : mm_V (zz_K l D aa b0) 1 yX4_set cX4_set 7 none 0 [(0, .ref (o + b)), (1, .long (lN (u))), (3, .long (lN (d)))] [] h 0 0 (fun rv h' => rv = none ∧ cm_at o X (xu (xu Y b 0 (lN (red u d).1)) b 1 (lN (red u d).2)) rl h' ∧ cm_fr o h h') := by
  have hf := cm_fr.rf (o := o) (h := h)
  have hg1 : 0 < Nat.gcd u d := Nat.gcd_pos_of_pos_right _ hd0
  have hgd : Nat.gcd u d ≤ d := Nat.gcd_le_right _ hd0
  refine mm_lload_n dX4_set_0 rfl 1 rfl ?_
  refine mm_lload_n dX4_set_1 rfl 2 rfl ?_
  refine rm_callSr (As := [.long (lN (u)), .long (lN (d))]) (rest := []) (d2 := 0) dX4_set_2 zc_X4_13 rfl rfl (Nat.le_of_ble_eq_true rfl) (Nat.le_of_ble_eq_true rfl) (by decide) (cq_common hu hd) ?_
  refine mm_lstore (L' := [(5, .long (lN (Nat.gcd u d))), (0, .ref (o + b)), (1, .long (lN (u))), (3, .long (lN (d)))]) dX4_set_5 (by decide) rfl ?_
  refine mm_aload_n dX4_set_7 rfl 1 rfl ?_
  refine mm_lload dX4_set_8 0 rfl ?_
  refine mm_lconst (v := lN 1) dX4_set_10 (by decide) ?_
  refine mn_lc_le (tgt := 22) dX4_set_11 dX4_set_12 (by decide) (by omega) (by omega) (fun c11 => ?_) (fun c11 => ?_)
  · refine mm_lload_n dX4_set_22 rfl 2 rfl ?_
    refine mn_top (u := .long (lN ((red u d).1))) (congrArg Value.long (by show lN u = lN (u / Nat.gcd u d); rw [show Nat.gcd u d = 1 from by omega, Nat.div_one])) ?_
    refine cm_putJ dX4_set_23 ha hf zp_X4_17 (qA_lt hqb 0 (by decide)) (qA_0 hqb) rfl rfl rfl (fun h ha hf => ?_)
    refine mm_aload_n dX4_set_26 rfl 1 rfl ?_
    refine mm_lload dX4_set_27 0 rfl ?_
    refine mm_lconst (v := lN 1) dX4_set_29 (by decide) ?_
    refine mn_lc_le (tgt := 41) dX4_set_30 dX4_set_31 (by decide) (by omega) (by omega) (fun c30 => ?_) (fun c30 => ?_)
    · refine mm_lload_n dX4_set_41 rfl 3 rfl ?_
      refine mn_top (u := .long (lN ((red u d).2))) (congrArg Value.long (by show lN d = lN (d / Nat.gcd u d); rw [show Nat.gcd u d = 1 from by omega, Nat.div_one])) ?_
      refine cm_putJ dX4_set_42 ha hf zp_X4_7 (qA_lt hqb 0 (by decide)) (qA_0 hqb) rfl rfl rfl (fun h ha hf => ?_)
      exact mm_vret dX4_set_45 rfl (⟨rfl, ha, hf⟩)
    · refine mm_lload_n dX4_set_34 rfl 3 rfl ?_
      refine mm_lload dX4_set_35 0 rfl ?_
      refine mn_ldiv dX4_set_37 (by omega) (by omega) (by omega) ?_
      refine mm_goto (tgt := 42) dX4_set_38 (by decide) ?_
      refine mn_top (u := .long (lN ((red u d).2))) (congrArg Value.long (rfl)) ?_
      refine cm_putJ dX4_set_42 ha hf zp_X4_7 (qA_lt hqb 0 (by decide)) (qA_0 hqb) rfl rfl rfl (fun h ha hf => ?_)
      exact mm_vret dX4_set_45 rfl (⟨rfl, ha, hf⟩)
  · refine mm_lload_n dX4_set_15 rfl 2 rfl ?_
    refine mm_lload dX4_set_16 0 rfl ?_
    refine mn_ldiv dX4_set_18 (by omega) (by omega) (by omega) ?_
    refine mm_goto (tgt := 23) dX4_set_19 (by decide) ?_
    refine mn_top (u := .long (lN ((red u d).1))) (congrArg Value.long (rfl)) ?_
    refine cm_putJ dX4_set_23 ha hf zp_X4_17 (qA_lt hqb 0 (by decide)) (qA_0 hqb) rfl rfl rfl (fun h ha hf => ?_)
    refine mm_aload_n dX4_set_26 rfl 1 rfl ?_
    refine mm_lload dX4_set_27 0 rfl ?_
    refine mm_lconst (v := lN 1) dX4_set_29 (by decide) ?_
    refine mn_lc_le (tgt := 41) dX4_set_30 dX4_set_31 (by decide) (by omega) (by omega) (fun c30 => ?_) (fun c30 => ?_)
    · refine mm_lload_n dX4_set_41 rfl 3 rfl ?_
      refine mn_top (u := .long (lN ((red u d).2))) (congrArg Value.long (by show lN d = lN (d / Nat.gcd u d); rw [show Nat.gcd u d = 1 from by omega, Nat.div_one])) ?_
      refine cm_putJ dX4_set_42 ha hf zp_X4_7 (qA_lt hqb 0 (by decide)) (qA_0 hqb) rfl rfl rfl (fun h ha hf => ?_)
      exact mm_vret dX4_set_45 rfl (⟨rfl, ha, hf⟩)
    · refine mm_lload_n dX4_set_34 rfl 3 rfl ?_
      refine mm_lload dX4_set_35 0 rfl ?_
      refine mn_ldiv dX4_set_37 (by omega) (by omega) (by omega) ?_
      refine mm_goto (tgt := 42) dX4_set_38 (by decide) ?_
      refine mn_top (u := .long (lN ((red u d).2))) (congrArg Value.long (rfl)) ?_
      refine cm_putJ dX4_set_42 ha hf zp_X4_7 (qA_lt hqb 0 (by decide)) (qA_0 hqb) rfl rfl rfl (fun h ha hf => ?_)
      exact mm_vret dX4_set_45 rfl (⟨rfl, ha, hf⟩)
set_option maxRecDepth 100000 in
set_option maxHeartbeats 4000000 in
theorem cqr_add {l : Launch} {D : va_G} {aa : Nat → ClassId} {b0 : Nat} {h : mm_H} {o : Nat} {X : Nat → Nat → Int32} {Y : Nat → Nat → Int64} {rl : Option Nat} {b c p q S B : Nat} {t : Nat × Nat} (ha : cm_at o X Y rl h) (hqb : qA b) (hqc : qA c) (htk : tmk_ S t) (hq : 0 < q) (hqd : q ∣ LL_) (hp : p ≤ B * q) (hSB : S + B ≤ 100000000) (hb0 : Y b 0 = lN t.1) (hb1 : Y b 1 = lN t.2) (hc0 : Y c 0 = lN p) (hc1 : Y c 1 = lN q) : mm_V (zz_K l D aa b0) 2 yX4_add cX4_add 6 none 0 [(0, .ref (o + b)), (1, .ref (o + c))] [] h 0 0 (fun rv h' => rv = none ∧ cm_at o X (xu (xu Y b 0 (lN (tAd t p q).1)) b 1 (lN (tAd t p q).2)) rl h' ∧ cm_fr o h h') := by
  have hf := cm_fr.rf (o := o) (h := h)
  have hb := tmk_b htk (by omega)
  have hql := LL_le hqd
  have ht0 := htk.1
  obtain ⟨x1, x2, x3⟩ := tmk_x htk hq hqd hp
  have xe := tAd_lcm (p := p) ht0 hq
  rw [lcm_sw] at x1 x2 x3 xe
  have x4 := LL_le x2
  have hg1 : 0 < Nat.gcd t.2 q := Nat.gcd_pos_of_pos_right _ hq
  have hgq : Nat.gcd t.2 q ≤ q := Nat.gcd_le_right _ hq
  have x5 : (S + B) * (t.2 * (q / Nat.gcd t.2 q)) ≤ 100000000 * 80015040000 := Nat.mul_le_mul hSB x4
  refine mm_aload_n dX4_add_0 rfl 0 rfl ?_
  refine cm_getJ dX4_add_1 ha zr_X4_7 (qA_lt hqb 0 (by decide)) (qA_0 hqb) rfl ?_
  refine mn_top (u := .long (lN (t.2))) (congrArg Value.long ((hb1))) ?_
  refine mm_aload_n dX4_add_4 rfl 1 rfl ?_
  refine cm_getJ dX4_add_5 ha zr_X4_7 (qA_lt hqc 0 (by decide)) (qA_0 hqc) rfl ?_
  refine mn_top (u := .long (lN (q))) (congrArg Value.long ((hc1))) ?_
  refine rm_callSr (As := [.long (lN (t.2)), .long (lN (q))]) (rest := []) (d2 := 0) dX4_add_8 zc_X4_13 rfl rfl (Nat.le_of_ble_eq_true rfl) (Nat.le_of_ble_eq_true rfl) (by decide) (cq_common (by omega) (by omega)) ?_
  refine mm_lstore_n (L' := [(2, .long (lN (Nat.gcd t.2 q))), (0, .ref (o + b)), (1, .ref (o + c))]) dX4_add_11 rfl (by decide) rfl ?_
  refine mm_lload_n dX4_add_12 rfl 0 rfl ?_
  refine mm_lconst (v := lN 0) dX4_add_13 (by decide) ?_
  refine mn_lc_le (tgt := 56) dX4_add_14 dX4_add_15 (by decide) (by omega) (by omega) (fun c14 => ?_) (fun c14 => ?_)
  · omega
  · refine mm_aload_n dX4_add_18 rfl 2 rfl ?_
    refine cm_getJ dX4_add_19 ha zr_X4_7 (qA_lt hqc 0 (by decide)) (qA_0 hqc) rfl ?_
    refine mn_top (u := .long (lN (q))) (congrArg Value.long ((hc1))) ?_
    refine mm_lload_n dX4_add_22 rfl 0 rfl ?_
    refine mn_ldiv dX4_add_23 (by omega) (by omega) (by omega) ?_
    refine mm_lstore (L' := [(4, .long (lN ((q) / (Nat.gcd t.2 q)))), (2, .long (lN (Nat.gcd t.2 q))), (0, .ref (o + b)), (1, .ref (o + c))]) dX4_add_24 (by decide) rfl ?_
    refine mm_aload_n dX4_add_26 rfl 2 rfl ?_
    refine mm_aload_n dX4_add_27 rfl 2 rfl ?_
    refine cm_getJ dX4_add_28 ha zr_X4_17 (qA_lt hqb 0 (by decide)) (qA_0 hqb) rfl ?_
    refine mn_top (u := .long (lN (t.1))) (congrArg Value.long ((hb0))) ?_
    refine mm_lload dX4_add_31 0 rfl ?_
    refine mn_lmul dX4_add_33 ?_
    refine mm_aload_n dX4_add_34 rfl 3 rfl ?_
    refine cm_getJ dX4_add_35 ha zr_X4_17 (qA_lt hqc 0 (by decide)) (qA_0 hqc) rfl ?_
    refine mn_top (u := .long (lN (p))) (congrArg Value.long ((hc0))) ?_
    refine mm_aload_n dX4_add_38 rfl 2 rfl ?_
    refine cm_getJ dX4_add_39 ha zr_X4_7 (qA_lt hqb 0 (by decide)) (qA_0 hqb) rfl ?_
    refine mn_top (u := .long (lN (t.2))) (congrArg Value.long ((hb1))) ?_
    refine mm_lload_n dX4_add_42 rfl 1 rfl ?_
    refine mn_ldiv dX4_add_43 (by omega) (by omega) (by omega) ?_
    refine mn_lmul dX4_add_44 ?_
    refine mn_ladd dX4_add_45 ?_
    refine mm_aload_n dX4_add_46 rfl 2 rfl ?_
    refine cm_getJ dX4_add_47 ha zr_X4_7 (qA_lt hqb 0 (by decide)) (qA_0 hqb) rfl ?_
    refine mn_top (u := .long (lN (t.2))) (congrArg Value.long ((hb1))) ?_
    refine mm_lload dX4_add_50 0 rfl ?_
    refine mn_lmul dX4_add_52 ?_
    refine cm_callV (As := [.long (lN (((t.1) * ((q) / (Nat.gcd t.2 q))) + ((p) * ((t.2) / (Nat.gcd t.2 q))))), .long (lN ((t.2) * ((q) / (Nat.gcd t.2 q))))]) (rest := []) (d2 := 1) dX4_add_53 ha (qA_lt hqb 0 (by decide)) (qA_0 hqb) zz_clX4 zc_X4_20 zs_X4_set rfl rfl (Nat.le_of_ble_eq_true rfl) (Nat.le_of_ble_eq_true rfl) (by decide) (cq_set ha hqb (by omega) (by omega) x3) (fun r h1 hq' => ?_)
    obtain ⟨rfl, ha, hf'⟩ := hq'
    have hf := hf.tr hf'
    rw [xe] at ha
    exact mm_vret dX4_add_56 rfl (⟨rfl, ha, hf⟩)
set_option maxRecDepth 100000 in
set_option maxHeartbeats 4000000 in
theorem ct_fill {l : Launch} {D : va_G} {aa : Nat → ClassId} {b0 : Nat} {h : mm_H} {o : Nat} {X : Nat → Nat → Int32} {Y : Nat → Nat → Int64} {rl : Option Nat} {a v n : Nat} {V ua da : Nat → Nat} (ha : cm_at o X Y rl h) (hta : tA a) (hva : vA v) (hn : X (v + 3) 6 = nI n) (hn24 : n ≤ 24) (hti : ∀ i, i < n → X (v + 2) i = nI (V i)) (hup : ∀ i, i < n → X (v + 8) i = nI (ua i)) (hdn : ∀ i, i < n → X (v + 9) i = nI (da i)) (hsz : sz_ V ua da n) (hu1000 : ∀ i, i < n → ua i ≤ 1000) : mm_V (zz_K l D aa b0) 3 yX8_fill cX8_fill 3 none 0 [(0, .ref (o + a)), (1, .ref (o + v))] [] h 0 0 (fun rv h' => rv = none ∧ ∃ Y' : Nat → Nat → Int64, cm_at o (xu X a 4 (nI n)) Y' rl h' ∧ cm_fr o h h' ∧ (∀ b i, ¬ (a + 1 ≤ b ∧ b ≤ a + 4) → Y' b i = Y b i) ∧ ∀ i, i ≤ n → Y' (a + 1) i = lN (tT (0, 1) V ua da i).1 ∧ Y' (a + 2) i = lN (tT (0, 1) V ua da i).2) := by
  have hf := cm_fr.rf (o := o) (h := h)
  have hge := vA_ge hva
  have hta2 : a = 51 ∨ a = 56 := hta
  have hva2 : v = 36 ∨ 61 ≤ v := by rcases hva with h | ⟨i, _, h⟩ <;> omega
  have lp : ∀ (m k : Nat) (Y1 : Nat → Nat → Int64) (h1 : mm_H), k + m = n + 1 → (∀ i, i < k → Y1 (a + 1) i = lN (tT (0, 1) V ua da i).1 ∧ Y1 (a + 2) i = lN (tT (0, 1) V ua da i).2) → (∀ b i, ¬ (a + 1 ≤ b ∧ b ≤ a + 4) → Y1 b i = Y b i) → (k ≤ n → Y1 (a + 3) 0 = lN (tT (0, 1) V ua da k).1 ∧ Y1 (a + 3) 1 = lN (tT (0, 1) V ua da k).2) → cm_at o (xu X a 4 (nI n)) Y1 rl h1 → cm_fr o h h1 → mm_V (zz_K l D aa b0) 3 yX8_fill cX8_fill 3 none 31 [(2, .int (nI (k))), (0, .ref (o + a)), (1, .ref (o + v))] [] h1 0 0 (fun rv h' => rv = none ∧ ∃ Y' : Nat → Nat → Int64, cm_at o (xu X a 4 (nI n)) Y' rl h' ∧ cm_fr o h h' ∧ (∀ b i, ¬ (a + 1 ≤ b ∧ b ≤ a + 4) → Y' b i = Y b i) ∧ ∀ i, i ≤ n → Y' (a + 1) i = lN (tT (0, 1) V ua da i).1 ∧ Y' (a + 2) i = lN (tT (0, 1) V ua da i).2) := by
    intro m
    induction m with
    | zero =>
      intro k Y1 h1 hk hyl hfr hnow ha hf
      obtain ⟨X1, hX1⟩ : ∃ X1, X1 = xu X a 4 (nI n) := ⟨_, rfl⟩
      rw [← hX1] at ha
      have hX4 : X1 a 4 = nI n := by rw [hX1]; exact xu_s
      have hXo : ∀ b i, b ≠ a → X1 b i = X b i := fun b i hb => by rw [hX1]; exact xu_a hb
      refine mm_iload_n dX8_fill_31 rfl 0 rfl ?_
      refine mm_aload_n dX8_fill_32 rfl 1 rfl ?_
      refine cm_getI dX8_fill_33 ha zr_X8_49 (tA_lt hta 0 (by decide)) (tA_0 hta) rfl ?_
      refine mn_top (u := .int (nI (n))) (congrArg Value.int ((hX4))) ?_
      refine mn_icmp_gt (tgt := 122) dX8_fill_36 (by decide) (by omega) (by omega) (fun c36 => ?_) (fun c36 => ?_)
      · exact mm_vret dX8_fill_122 rfl (⟨rfl, Y1, by rw [← hX1]; exact ha, hf, hfr, fun i hi => hyl i (by omega)⟩)
      · omega
    | succ m ih =>
      intro k Y1 h1 hk hyl hfr hnow ha hf
      obtain ⟨X1, hX1⟩ : ∃ X1, X1 = xu X a 4 (nI n) := ⟨_, rfl⟩
      rw [← hX1] at ha
      have hX4 : X1 a 4 = nI n := by rw [hX1]; exact xu_s
      have hXo : ∀ b i, b ≠ a → X1 b i = X b i := fun b i hb => by rw [hX1]; exact xu_a hb
      have hnow := hnow (by omega)
      have htk : tmk_ (0 + 972000 * k) (tT (0, 1) V ua da k) := tT_k tmk_0 hsz k (by omega)
      refine mm_iload_n dX8_fill_31 rfl 0 rfl ?_
      refine mm_aload_n dX8_fill_32 rfl 1 rfl ?_
      refine cm_getI dX8_fill_33 ha zr_X8_49 (tA_lt hta 0 (by decide)) (tA_0 hta) rfl ?_
      refine mn_top (u := .int (nI (n))) (congrArg Value.int ((hX4))) ?_
      refine mn_icmp_gt (tgt := 122) dX8_fill_36 (by decide) (by omega) (by omega) (fun c36 => ?_) (fun c36 => ?_)
      · omega
      · refine mm_aload_n dX8_fill_39 rfl 1 rfl ?_
        refine cm_getR (b := a + 1) dX8_fill_40 ha zr_X8_9 (tA_lt hta 0 (by decide)) (tA_0 hta) rfl rfl ?_
        refine mm_iload_n dX8_fill_43 rfl 0 rfl ?_
        refine mm_aload_n dX8_fill_44 rfl 1 rfl ?_
        refine cm_getR (b := a + 3) dX8_fill_45 ha zr_X8_21 (tA_lt hta 0 (by decide)) (tA_0 hta) rfl rfl ?_
        refine cm_getJ dX8_fill_48 ha zr_X8_54 (tA_lt hta 3 (by decide)) (tA_3 hta) rfl ?_
        refine mn_top (u := .long (lN ((tT (0, 1) V ua da k).1))) (congrArg Value.long ((hnow.1))) ?_
        refine cm_jast (i := k) dX8_fill_51 ha hf (tA_lt hta 1 (by decide)) (tA_1 hta) (by omega) (by decide) (fun h1 ha hf => ?_)
        refine mm_aload_n dX8_fill_52 rfl 1 rfl ?_
        refine cm_getR (b := a + 2) dX8_fill_53 ha zr_X8_15 (tA_lt hta 0 (by decide)) (tA_0 hta) rfl rfl ?_
        refine mm_iload_n dX8_fill_56 rfl 0 rfl ?_
        refine mm_aload_n dX8_fill_57 rfl 1 rfl ?_
        refine cm_getR (b := a + 3) dX8_fill_58 ha zr_X8_21 (tA_lt hta 0 (by decide)) (tA_0 hta) rfl rfl ?_
        refine cm_getJ dX8_fill_61 ha zr_X8_58 (tA_lt hta 3 (by decide)) (tA_3 hta) rfl ?_
        refine mn_top (u := .long (lN ((tT (0, 1) V ua da k).2))) (congrArg Value.long (Eq.trans (xu_a (by omega)) ((hnow.2)))) ?_
        refine cm_jast (i := k) dX8_fill_64 ha hf (tA_lt hta 2 (by decide)) (tA_2 hta) (by omega) (by decide) (fun h1 ha hf => ?_)
        refine mm_iload_n dX8_fill_65 rfl 0 rfl ?_
        refine mm_aload_n dX8_fill_66 rfl 1 rfl ?_
        refine cm_getI dX8_fill_67 ha zr_X8_49 (tA_lt hta 0 (by decide)) (tA_0 hta) rfl ?_
        refine mn_top (u := .int (nI (n))) (congrArg Value.int ((hX4))) ?_
        refine mn_icmp_ge (tgt := 116) dX8_fill_70 (by decide) (by omega) (by omega) (fun c70 => ?_) (fun c70 => ?_)
        · refine mn_iinc (m := 1) (L' := [(2, .int (nI (k + 1))), (0, .ref (o + a)), (1, .ref (o + v))]) dX8_fill_116 (by decide) 0 rfl (by decide) rfl ?_
          refine mm_goto (tgt := 31) dX8_fill_119 (by decide) ?_
          refine mn_sub [0, 1, 2] rfl ?_
          rw [hX1] at ha
          refine ih (k + 1) _ _ (by omega) (fun i hi => ?_) (fun b i hb => (xu_a (by omega)).trans ((xu_a (by omega)).trans (hfr b i hb))) (fun z => by omega) ha hf
          by_cases e : i = k
          · subst e; exact ⟨(xu_a (by omega)).trans xu_s, xu_s⟩
          · exact ⟨(xu_a (by omega)).trans ((xu_i e).trans (hyl i (by omega)).1), (xu_i e).trans ((xu_a (by omega)).trans (hyl i (by omega)).2)⟩
        · obtain ⟨hV, ⟨hu0, hud⟩, hda⟩ := hsz k (by omega)
          have hul := LL_le hud
          have hB := sz_B hsz (show k < n by omega)
          have hu1 := hu1000 k (by omega)
          refine mm_aload_n dX8_fill_73 rfl 1 rfl ?_
          refine cm_getR (b := a + 4) dX8_fill_74 ha zr_X8_25 (tA_lt hta 0 (by decide)) (tA_0 hta) rfl rfl ?_
          refine mm_aload_n dX8_fill_77 rfl 2 rfl ?_
          refine mm_iload_n dX8_fill_78 rfl 0 rfl ?_
          refine cm_callVr (As := [.int (nI (k))]) (rest := [.ref (o + (a + 4))]) (d2 := 0) dX8_fill_79 ha (vA_lt hva 0 (by decide)) (vA_0 hva) zz_clX9 zc_X8_61 zs_X9_ticksAt rfl rfl (Nat.le_of_ble_eq_true rfl) (Nat.le_of_ble_eq_true rfl) (by decide) (cv_ticksAt ha hva (by omega)) ?_
          refine mn_top (u := .int (nI (V k))) (congrArg Value.int (by rw [if_pos (by omega)]; exact (hXo _ _ (by omega)).trans (hti k (by omega)))) ?_
          refine mn_i2l dX8_fill_82 (by omega) ?_
          refine mm_aload_n dX8_fill_83 rfl 2 rfl ?_
          refine cm_getR (b := v + 3) dX8_fill_84 ha zr_X8_28 (vA_lt hva 0 (by decide)) (vA_0 hva) rfl rfl ?_
          refine mm_iload_n dX8_fill_87 rfl 0 rfl ?_
          refine cm_callVr (As := [.int (nI (k))]) (rest := [.long (lN (V k)), .ref (o + (a + 4))]) (d2 := 0) dX8_fill_88 ha (vA_lt hva 3 (by decide)) (vA_3 hva) zz_clX6 zc_X8_65 zs_X6_downAt rfl rfl (Nat.le_of_ble_eq_true rfl) (Nat.le_of_ble_eq_true rfl) (by decide) (cr_downAt ha (vr_A hva) ((hXo _ _ (by omega)).trans hn) hn24 (by omega)) ?_
          refine mn_top (u := .int (nI (da k))) (congrArg Value.int (by rw [if_pos (by omega)]; exact (hXo _ _ (by omega)).trans (hdn k (by omega)))) ?_
          refine mn_i2l dX8_fill_91 (by omega) ?_
          refine mn_lmul dX8_fill_92 ?_
          refine mm_aload_n dX8_fill_93 rfl 2 rfl ?_
          refine cm_getR (b := v + 3) dX8_fill_94 ha zr_X8_28 (vA_lt hva 0 (by decide)) (vA_0 hva) rfl rfl ?_
          refine mm_iload_n dX8_fill_97 rfl 0 rfl ?_
          refine cm_callVr (As := [.int (nI (k))]) (rest := [.long (lN ((V k) * (da k))), .ref (o + (a + 4))]) (d2 := 0) dX8_fill_98 ha (vA_lt hva 3 (by decide)) (vA_3 hva) zz_clX6 zc_X8_68 zs_X6_upAt rfl rfl (Nat.le_of_ble_eq_true rfl) (Nat.le_of_ble_eq_true rfl) (by decide) (cr_upAt ha (vr_A hva) ((hXo _ _ (by omega)).trans hn) hn24 (by omega)) ?_
          refine mn_top (u := .int (nI (ua k))) (congrArg Value.int (by rw [if_pos (by omega)]; exact (hXo _ _ (by omega)).trans (hup k (by omega)))) ?_
          refine mn_i2l dX8_fill_101 (by omega) ?_
          refine cm_callV (As := [.long (lN ((V k) * (da k))), .long (lN (ua k))]) (rest := []) (d2 := 1) dX8_fill_102 ha (tA_lt hta 4 (by decide)) (tA_4 hta) zz_clX4 zc_X8_50 zs_X4_set rfl rfl (Nat.le_of_ble_eq_true rfl) (Nat.le_of_ble_eq_true rfl) (by decide) (cq_set ha hta.lasting (Nat.lt_of_le_of_lt hB (by omega)) (by omega) hu0) (fun r h1 hq => ?_)
          obtain ⟨rfl, ha, hf'⟩ := hq
          have hf := hf.tr hf'
          refine mm_aload_n dX8_fill_105 rfl 1 rfl ?_
          refine cm_getR (b := a + 3) dX8_fill_106 ha zr_X8_21 (tA_lt hta 0 (by decide)) (tA_0 hta) rfl rfl ?_
          refine mm_aload_n dX8_fill_109 rfl 1 rfl ?_
          refine cm_getR (b := a + 4) dX8_fill_110 ha zr_X8_25 (tA_lt hta 0 (by decide)) (tA_0 hta) rfl rfl ?_
          refine cm_callV (As := [.ref (o + (a + 4))]) (rest := []) (d2 := 2) dX8_fill_113 ha (tA_lt hta 3 (by decide)) (tA_3 hta) zz_clX4 zc_X8_71 zs_X4_add rfl rfl (Nat.le_of_ble_eq_true rfl) (Nat.le_of_ble_eq_true rfl) (by decide) (cqr_add (t := tT (0, 1) V ua da k) (p := (red (V k * da k) (ua k)).1) (q := (red (V k * da k) (ua k)).2) ha hta.now hta.lasting htk (red_pos hu0) (Nat.dvd_trans red_dvd hud) (red_le hu0 hB) (by omega) ((xu_a (by omega)).trans ((xu_a (by omega)).trans ((xu_a (by omega)).trans ((xu_a (by omega)).trans hnow.1)))) ((xu_a (by omega)).trans ((xu_a (by omega)).trans ((xu_a (by omega)).trans ((xu_a (by omega)).trans hnow.2)))) ((xu_i (by decide)).trans xu_s) xu_s) (fun r h1 hq => ?_)
          obtain ⟨rfl, ha, hf'⟩ := hq
          have hf := hf.tr hf'
          rw [tAd_red htk.1 hu0] at ha
          refine mn_iinc (m := 1) (L' := [(2, .int (nI (k + 1))), (0, .ref (o + a)), (1, .ref (o + v))]) dX8_fill_116 (by decide) 0 rfl (by decide) rfl ?_
          refine mm_goto (tgt := 31) dX8_fill_119 (by decide) ?_
          refine mn_sub [0, 1, 2] rfl ?_
          rw [hX1] at ha
          refine ih (k + 1) _ _ (by omega) (fun i hi => ?_) (fun b i hb => ?_) (fun _ => ⟨(xu_i (by decide)).trans xu_s, xu_s⟩) ha hf
          · by_cases e : i = k
            · subst e; rw [xu_a (by omega), xu_a (by omega), xu_a (by omega), xu_a (by omega), xu_a (by omega), xu_s, xu_a (by omega), xu_a (by omega), xu_a (by omega), xu_a (by omega), xu_s]; exact ⟨rfl, rfl⟩
            · rw [xu_a (by omega), xu_a (by omega), xu_a (by omega), xu_a (by omega), xu_a (by omega), xu_i e, xu_a (by omega), xu_a (by omega), xu_a (by omega), xu_a (by omega), xu_i e, xu_a (by omega)]; exact hyl i (by omega)
          · rw [xu_a (by omega), xu_a (by omega), xu_a (by omega), xu_a (by omega), xu_a (by omega), xu_a (by omega)]; exact hfr b i hb
  refine mm_aload_n dX8_fill_0 rfl 0 rfl ?_
  refine mm_iconst (v := nI 0) dX8_fill_1 (by decide) ?_
  refine mm_aload_n dX8_fill_2 rfl 1 rfl ?_
  refine cm_getR (b := v + 3) dX8_fill_3 ha zr_X8_28 (vA_lt hva 0 (by decide)) (vA_0 hva) rfl rfl ?_
  refine cm_getI dX8_fill_6 ha zr_X8_34 (vA_lt hva 3 (by decide)) (vA_3 hva) rfl ?_
  refine mn_top (u := .int (nI (n))) (congrArg Value.int ((hn))) ?_
  refine mm_bipush (v := nI 24) dX8_fill_9 (by decide) ?_
  refine mm_mmin dX8_fill_11 zc_X8_40 (Nat.le_of_ble_eq_true rfl) ?_
  refine mn_top (u := .int (nI (n))) (congrArg Value.int ((mi_n (by omega) (by omega)).trans (by congr 1; split <;> omega))) ?_
  refine mm_mmax dX8_fill_14 zc_X8_46 (Nat.le_of_ble_eq_true rfl) ?_
  refine mn_top (u := .int (nI (n))) (congrArg Value.int ((mx_n (by omega) (by omega)).trans (by congr 1; split <;> omega))) ?_
  refine cm_putI dX8_fill_17 ha hf zp_X8_49 (tA_lt hta 0 (by decide)) (tA_0 hta) rfl rfl rfl (fun h ha hf => ?_)
  refine mm_aload_n dX8_fill_20 rfl 0 rfl ?_
  refine cm_getR (b := a + 3) dX8_fill_21 ha zr_X8_21 (tA_lt hta 0 (by decide)) (tA_0 hta) rfl rfl ?_
  refine mm_lconst (v := lN 0) dX8_fill_24 (by decide) ?_
  refine mm_lconst (v := lN 1) dX8_fill_25 (by decide) ?_
  refine cm_callV (As := [.long (lN (0)), .long (lN (1))]) (rest := []) (d2 := 1) dX8_fill_26 ha (tA_lt hta 3 (by decide)) (tA_3 hta) zz_clX4 zc_X8_50 zs_X4_set rfl rfl (Nat.le_of_ble_eq_true rfl) (Nat.le_of_ble_eq_true rfl) (by decide) (cq_set ha hta.now (by decide) (by decide) (by decide)) (fun r h1 hq => ?_)
  obtain ⟨rfl, ha, hf'⟩ := hq
  have hf := hf.tr hf'
  refine mm_iconst (v := nI 0) dX8_fill_29 (by decide) ?_
  refine mm_istore_n (L' := [(2, .int (nI (0))), (0, .ref (o + a)), (1, .ref (o + v))]) dX8_fill_30 rfl (by decide) rfl ?_
  refine mn_sub [0, 1, 2] rfl ?_
  refine lp (n + 1) 0 _ _ (by omega) (fun i hi => by omega) (fun b i hb => (xu_a (by omega)).trans (xu_a (by omega))) (fun _ => ⟨(xu_i (by decide)).trans xu_s, xu_s⟩) ha hf
set_option maxRecDepth 100000 in
set_option maxHeartbeats 4000000 in
theorem ct_upAt {l : Launch} {D : va_G} {aa : Nat → ClassId} {b0 : Nat} {h : mm_H} {o : Nat} {X : Nat → Nat → Int32} {Y : Nat → Nat → Int64} {rl : Option Nat} {a n i u : Nat} (ha : cm_at o X Y rl h) (hta : tA a) (hn : X a 4 = nI n) (hn24 : n ≤ 24) (hi : i ≤ n) (hu : Y (a + 1) i = lN u) : mm_V (zz_K l D aa b0) 0 yX8_upAt cX8_upAt 2 (some .long) 0 [(0, .ref (o + a)), (1, .int (nI (i)))] [] h 0 0 (fun rv h' => h' = h ∧ rv = some (.long (lN u))) := by
  refine mm_iload_n dX8_upAt_0 rfl 1 rfl ?_
  refine mn_if_lt (tgt := 21) dX8_upAt_1 (by decide) (by omega) ?_
  refine mm_iload_n dX8_upAt_4 rfl 1 rfl ?_
  refine mm_aload_n dX8_upAt_5 rfl 0 rfl ?_
  refine cm_getI dX8_upAt_6 ha zr_X8_49 (tA_lt hta 0 (by decide)) (tA_0 hta) rfl ?_
  refine mn_top (u := .int (nI (n))) (congrArg Value.int ((hn))) ?_
  refine mn_icmp_gt (tgt := 21) dX8_upAt_9 (by decide) (by omega) (by omega) (fun c9 => ?_) (fun c9 => ?_)
  · omega
  · refine mm_iload_n dX8_upAt_12 rfl 1 rfl ?_
    refine mm_aload_n dX8_upAt_13 rfl 0 rfl ?_
    refine cm_getR (b := a + 1) dX8_upAt_14 ha zr_X8_9 (tA_lt hta 0 (by decide)) (tA_0 hta) rfl rfl ?_
    refine cm_alenJ dX8_upAt_17 ha (tA_lt hta 1 (by decide)) (tA_1 hta) ?_
    refine mn_icmp_lt (tgt := 27) dX8_upAt_18 (by decide) (by omega) (by omega) (fun c18 => ?_) (fun c18 => ?_)
    · refine mm_aload_n dX8_upAt_27 rfl 0 rfl ?_
      refine cm_getR (b := a + 1) dX8_upAt_28 ha zr_X8_9 (tA_lt hta 0 (by decide)) (tA_0 hta) rfl rfl ?_
      refine mm_iload_n dX8_upAt_31 rfl 1 rfl ?_
      refine cm_lald (i := i) dX8_upAt_32 ha (tA_lt hta 1 (by decide)) (tA_1 hta) (by omega) (by decide) ?_
      refine mn_top (u := .long (lN (u))) (congrArg Value.long (hu)) ?_
      exact mm_lret dX8_upAt_33 rfl (⟨rfl, rfl⟩)
    · omega
set_option maxRecDepth 100000 in
set_option maxHeartbeats 4000000 in
theorem ct_downAt {l : Launch} {D : va_G} {aa : Nat → ClassId} {b0 : Nat} {h : mm_H} {o : Nat} {X : Nat → Nat → Int32} {Y : Nat → Nat → Int64} {rl : Option Nat} {a n i u : Nat} (ha : cm_at o X Y rl h) (hta : tA a) (hn : X a 4 = nI n) (hn24 : n ≤ 24) (hi : i ≤ n) (hu : Y (a + 2) i = lN u) : mm_V (zz_K l D aa b0) 0 yX8_downAt cX8_downAt 2 (some .long) 0 [(0, .ref (o + a)), (1, .int (nI (i)))] [] h 0 0 (fun rv h' => h' = h ∧ rv = some (.long (lN u))) := by
  refine mm_iload_n dX8_downAt_0 rfl 1 rfl ?_
  refine mn_if_lt (tgt := 21) dX8_downAt_1 (by decide) (by omega) ?_
  refine mm_iload_n dX8_downAt_4 rfl 1 rfl ?_
  refine mm_aload_n dX8_downAt_5 rfl 0 rfl ?_
  refine cm_getI dX8_downAt_6 ha zr_X8_49 (tA_lt hta 0 (by decide)) (tA_0 hta) rfl ?_
  refine mn_top (u := .int (nI (n))) (congrArg Value.int ((hn))) ?_
  refine mn_icmp_gt (tgt := 21) dX8_downAt_9 (by decide) (by omega) (by omega) (fun c9 => ?_) (fun c9 => ?_)
  · omega
  · refine mm_iload_n dX8_downAt_12 rfl 1 rfl ?_
    refine mm_aload_n dX8_downAt_13 rfl 0 rfl ?_
    refine cm_getR (b := a + 2) dX8_downAt_14 ha zr_X8_15 (tA_lt hta 0 (by decide)) (tA_0 hta) rfl rfl ?_
    refine cm_alenJ dX8_downAt_17 ha (tA_lt hta 2 (by decide)) (tA_2 hta) ?_
    refine mn_icmp_lt (tgt := 27) dX8_downAt_18 (by decide) (by omega) (by omega) (fun c18 => ?_) (fun c18 => ?_)
    · refine mm_aload_n dX8_downAt_27 rfl 0 rfl ?_
      refine cm_getR (b := a + 2) dX8_downAt_28 ha zr_X8_15 (tA_lt hta 0 (by decide)) (tA_0 hta) rfl rfl ?_
      refine mm_iload_n dX8_downAt_31 rfl 1 rfl ?_
      refine cm_lald (i := i) dX8_downAt_32 ha (tA_lt hta 2 (by decide)) (tA_2 hta) (by omega) (by decide) ?_
      refine mn_top (u := .long (lN (u))) (congrArg Value.long (hu)) ?_
      exact mm_lret dX8_downAt_33 rfl (⟨rfl, rfl⟩)
    · omega
set_option maxRecDepth 100000 in
set_option maxHeartbeats 4000000 in
theorem ct_compareAt {l : Launch} {D : va_G} {aa : Nat → ClassId} {b0 : Nat} {h : mm_H} {o : Nat} {X : Nat → Nat → Int32} {Y : Nat → Nat → Int64} {rl : Option Nat} {a n i u d c e : Nat} (ha : cm_at o X Y rl h) (hta : tA a) (hn : X a 4 = nI n) (hn24 : n ≤ 24) (hi : i ≤ n) (hu : Y (a + 1) i = lN u) (hd : Y (a + 2) i = lN d) (hu63 : u < 2 ^ 63) (hd63 : d < 2 ^ 63) (hc63 : c < 2 ^ 63) (he63 : e < 2 ^ 63) (hd0 : 0 < d) (he0 : 0 < e) : mm_V (zz_K l D aa b0) 3 yX8_compareAt cX8_compareAt 6 (some .int) 0 [(0, .ref (o + a)), (1, .int (nI (i))), (2, .long (lN (c))), (4, .long (lN (e)))] [] h 0 0 (fun rv h' => h' = h ∧ rv = some (.int (Int32.ofInt (cm3 (u * e) (c * d))))) := by
  refine mm_aload_n dX8_compareAt_0 rfl 0 rfl ?_
  refine mm_iload_n dX8_compareAt_1 rfl 1 rfl ?_
  refine cm_callVr (As := [.int (nI (i))]) (rest := []) (d2 := 0) dX8_compareAt_2 ha (tA_lt hta 0 (by decide)) (tA_0 hta) zz_clX8 zc_X8_77 zs_X8_upAt rfl rfl (Nat.le_of_ble_eq_true rfl) (Nat.le_of_ble_eq_true rfl) (by decide) (ct_upAt ha hta hn hn24 hi hu) ?_
  refine mm_aload_n dX8_compareAt_5 rfl 0 rfl ?_
  refine mm_iload_n dX8_compareAt_6 rfl 1 rfl ?_
  refine cm_callVr (As := [.int (nI (i))]) (rest := [.long (lN (u))]) (d2 := 0) dX8_compareAt_7 ha (tA_lt hta 0 (by decide)) (tA_0 hta) zz_clX8 zc_X8_80 zs_X8_downAt rfl rfl (Nat.le_of_ble_eq_true rfl) (Nat.le_of_ble_eq_true rfl) (by decide) (ct_downAt ha hta hn hn24 hi hd) ?_
  refine mm_lload_n dX8_compareAt_10 rfl 2 rfl ?_
  refine mm_lload dX8_compareAt_11 3 rfl ?_
  refine rm_callSr (As := [.long (lN (u)), .long (lN (d)), .long (lN (c)), .long (lN (e))]) (rest := []) (d2 := 1) dX8_compareAt_13 zc_X8_82 rfl rfl (Nat.le_of_ble_eq_true rfl) (Nat.le_of_ble_eq_true rfl) (by decide) (cq_compare hu63 hd63 hc63 he63 hd0 he0) ?_
  exact mm_iret dX8_compareAt_16 rfl (⟨rfl, rfl⟩)
set_option maxRecDepth 100000 in
set_option maxHeartbeats 4000000 in
theorem ct_isEndOf {l : Launch} {D : va_G} {aa : Nat → ClassId} {b0 : Nat} {h : mm_H} {o : Nat} {X : Nat → Nat → Int32} {Y : Nat → Nat → Int64} {rl : Option Nat} {a b n m u d c e : Nat} (ha : cm_at o X Y rl h) (hta : tA a) (htb : tA b) (hn : X a 4 = nI n) (hn24 : n ≤ 24) (hm : X b 4 = nI m) (hm24 : m ≤ 24) (h1 : Y (a + 1) n = lN u) (h2 : Y (a + 2) n = lN d) (g1 : Y (b + 1) m = lN c) (g2 : Y (b + 2) m = lN e) (hu63 : u < 2 ^ 63) (hd63 : d < 2 ^ 63) (hc63 : c < 2 ^ 63) (he63 : e < 2 ^ 63) : mm_V (zz_K l D aa b0) 1 yX8_isEndOf cX8_isEndOf 2 (some .boolean) 0 [(0, .ref (o + a)), (1, .ref (o + b))] [] h 0 0 (fun rv h' => h' = h ∧ rv = some (.int (nI (Bool.toNat (decide (u = c ∧ d = e)))))) := by
  refine mm_aload_n dX8_isEndOf_0 rfl 0 rfl ?_
  refine mm_aload_n dX8_isEndOf_1 rfl 0 rfl ?_
  refine cm_getI dX8_isEndOf_2 ha zr_X8_49 (tA_lt hta 0 (by decide)) (tA_0 hta) rfl ?_
  refine mn_top (u := .int (nI (n))) (congrArg Value.int ((hn))) ?_
  refine cm_callVr (As := [.int (nI (n))]) (rest := []) (d2 := 0) dX8_isEndOf_5 ha (tA_lt hta 0 (by decide)) (tA_0 hta) zz_clX8 zc_X8_77 zs_X8_upAt rfl rfl (Nat.le_of_ble_eq_true rfl) (Nat.le_of_ble_eq_true rfl) (by decide) (ct_upAt ha hta hn hn24 (Nat.le_refl _) h1) ?_
  refine mm_aload_n dX8_isEndOf_8 rfl 1 rfl ?_
  refine mm_aload_n dX8_isEndOf_9 rfl 1 rfl ?_
  refine cm_getI dX8_isEndOf_10 ha zr_X8_49 (tA_lt htb 0 (by decide)) (tA_0 htb) rfl ?_
  refine mn_top (u := .int (nI (m))) (congrArg Value.int ((hm))) ?_
  refine cm_callVr (As := [.int (nI (m))]) (rest := [.long (lN (u))]) (d2 := 0) dX8_isEndOf_13 ha (tA_lt htb 0 (by decide)) (tA_0 htb) zz_clX8 zc_X8_77 zs_X8_upAt rfl rfl (Nat.le_of_ble_eq_true rfl) (Nat.le_of_ble_eq_true rfl) (by decide) (ct_upAt ha htb hm hm24 (Nat.le_refl _) g1) ?_
  refine mn_lc_ne (tgt := 44) dX8_isEndOf_16 dX8_isEndOf_17 (by decide) (by omega) (by omega) (fun c16 => ?_) (fun c16 => ?_)
  · refine mm_iconst (v := nI 0) dX8_isEndOf_44 (by decide) ?_
    exact mm_zret dX8_isEndOf_45 rfl (by decide) (⟨rfl, by rw [decide_eq_false (by omega)]; rfl⟩)
  · refine mm_aload_n dX8_isEndOf_20 rfl 0 rfl ?_
    refine mm_aload_n dX8_isEndOf_21 rfl 0 rfl ?_
    refine cm_getI dX8_isEndOf_22 ha zr_X8_49 (tA_lt hta 0 (by decide)) (tA_0 hta) rfl ?_
    refine mn_top (u := .int (nI (n))) (congrArg Value.int ((hn))) ?_
    refine cm_callVr (As := [.int (nI (n))]) (rest := []) (d2 := 0) dX8_isEndOf_25 ha (tA_lt hta 0 (by decide)) (tA_0 hta) zz_clX8 zc_X8_80 zs_X8_downAt rfl rfl (Nat.le_of_ble_eq_true rfl) (Nat.le_of_ble_eq_true rfl) (by decide) (ct_downAt ha hta hn hn24 (Nat.le_refl _) h2) ?_
    refine mm_aload_n dX8_isEndOf_28 rfl 1 rfl ?_
    refine mm_aload_n dX8_isEndOf_29 rfl 1 rfl ?_
    refine cm_getI dX8_isEndOf_30 ha zr_X8_49 (tA_lt htb 0 (by decide)) (tA_0 htb) rfl ?_
    refine mn_top (u := .int (nI (m))) (congrArg Value.int ((hm))) ?_
    refine cm_callVr (As := [.int (nI (m))]) (rest := [.long (lN (d))]) (d2 := 0) dX8_isEndOf_33 ha (tA_lt htb 0 (by decide)) (tA_0 htb) zz_clX8 zc_X8_80 zs_X8_downAt rfl rfl (Nat.le_of_ble_eq_true rfl) (Nat.le_of_ble_eq_true rfl) (by decide) (ct_downAt ha htb hm hm24 (Nat.le_refl _) g2) ?_
    refine mn_lc_ne (tgt := 44) dX8_isEndOf_36 dX8_isEndOf_37 (by decide) (by omega) (by omega) (fun c36 => ?_) (fun c36 => ?_)
    · refine mm_iconst (v := nI 0) dX8_isEndOf_44 (by decide) ?_
      exact mm_zret dX8_isEndOf_45 rfl (by decide) (⟨rfl, by rw [decide_eq_false (by omega)]; rfl⟩)
    · refine mm_iconst (v := nI 1) dX8_isEndOf_40 (by decide) ?_
      refine mm_goto (tgt := 45) dX8_isEndOf_41 (by decide) ?_
      exact mm_zret dX8_isEndOf_45 rfl (by decide) (⟨rfl, by rw [decide_eq_true (by omega)]; rfl⟩)
