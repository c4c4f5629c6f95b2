/-! Writer: begin -/
set_option maxRecDepth 100000 in
set_option maxHeartbeats 4000000 in
theorem cw_begin {l : Launch} {D : va_G} {aa : Nat → ClassId} {b0 : Nat} {h : mm_H} {o : Nat} {X : Nat → Nat → Int32} {Y : Nat → Nat → Int64} {rl : Option Nat} {sg n : Nat} {a b c : Int32} (ha : cm_at o X Y rl h) (hsg : sg < 16) (hn : 1 ≤ n ∧ n ≤ 3) : mm_V (zz_K l D aa b0) 3 yX10_begin cX10_begin 8 none 0 [(0, .ref (o + 35)), (1, .int (nI (sg))), (2, .int (nI (n))), (3, .int (a)), (4, .int (b)), (5, .int (c))] [] h 0 0 (fun rv h' => rv = none ∧ ∃ X' : Nat → Nat → Int32, cm_at o X' Y rl h' ∧ cm_fr o h h' ∧ wrt_ X' sg n (fun i : Nat => if i = 0 then a else if i = 1 then b else c) ∧ X' 35 8 = nI 0 ∧ (∀ b i, ¬ (b = 35 ∧ 6 ≤ i ∧ i ≤ 8) → ¬ (b = 36 ∧ (i = 3 ∨ i = 4)) → b ≠ 37 → b ≠ 46 → b ≠ 48 → b ≠ 49 → X' b i = X b i)) := by
  have hf := cm_fr.rf (o := o) (h := h)
  have hva : vA 36 := Or.inl rfl
  obtain ⟨wv, hwv⟩ : ∃ wv : Nat → Int32, wv = (fun i : Nat => if i = 0 then a else if i = 1 then b else c) := ⟨_, rfl⟩
  rw [← hwv]
  refine mm_aload_n dX10_begin_0 rfl 0 rfl ?_
  refine cm_getR (b := 36) dX10_begin_1 ha zr_X10_14 (by decide) rfl rfl rfl ?_
  refine mm_iload_n dX10_begin_4 rfl 1 rfl ?_
  refine cm_callV (As := [.int (nI (sg))]) (rest := []) (d2 := 1) dX10_begin_5 ha (by decide) rfl zz_clX9 zc_X10_34 zs_X9_setSign rfl rfl (Nat.le_of_ble_eq_true rfl) (Nat.le_of_ble_eq_true rfl) (by decide) (cv_setSign (a := 36) ha hva hsg) (fun r h1 hq => ?_)
  obtain ⟨rfl, X0, ha, hf', hvs, hx0⟩ := hq
  have hf := hf.tr hf'
  refine mm_aload_n dX10_begin_8 rfl 0 rfl ?_
  refine mm_iconst (v := nI 0) dX10_begin_9 (by decide) ?_
  refine mm_iload_n dX10_begin_10 rfl 2 rfl ?_
  refine mm_iconst (v := nI 3) dX10_begin_11 (by decide) ?_
  refine mm_mmin dX10_begin_12 zc_X10_38 (Nat.le_of_ble_eq_true rfl) ?_
  refine mn_top (u := .int (nI (n))) (congrArg Value.int ((mi_n (by omega) (by omega)).trans (by congr 1; split <;> omega))) ?_
  refine mm_mmax dX10_begin_15 zc_X10_44 (Nat.le_of_ble_eq_true rfl) ?_
  refine mn_top (u := .int (nI (n))) (congrArg Value.int ((mx_n (by omega) (by omega)).trans (by congr 1; split <;> omega))) ?_
  refine cm_putI dX10_begin_18 ha hf zp_X10_47 (by decide) rfl rfl rfl rfl (fun h1 ha hf => ?_)
  refine mm_aload_n dX10_begin_21 rfl 0 rfl ?_
  refine cm_getR (b := 46) dX10_begin_22 ha zr_X10_18 (by decide) rfl rfl rfl ?_
  refine mm_iconst (v := nI 0) dX10_begin_25 (by decide) ?_
  refine mm_iload_n dX10_begin_26 rfl 3 rfl ?_
  refine cm_iast (i := 0) dX10_begin_27 ha hf (by decide) rfl (by decide) (by decide) (fun h1 ha hf => ?_)
  refine mm_aload_n dX10_begin_28 rfl 0 rfl ?_
  refine cm_getR (b := 46) dX10_begin_29 ha zr_X10_18 (by decide) rfl rfl rfl ?_
  refine mm_iconst (v := nI 1) dX10_begin_32 (by decide) ?_
  refine mm_iload dX10_begin_33 4 rfl ?_
  refine cm_iast (i := 1) dX10_begin_35 ha hf (by decide) rfl (by decide) (by decide) (fun h1 ha hf => ?_)
  refine mm_aload_n dX10_begin_36 rfl 0 rfl ?_
  refine cm_getR (b := 46) dX10_begin_37 ha zr_X10_18 (by decide) rfl rfl rfl ?_
  refine mm_iconst (v := nI 2) dX10_begin_40 (by decide) ?_
  refine mm_iload dX10_begin_41 5 rfl ?_
  refine cm_iast (i := 2) dX10_begin_43 ha hf (by decide) rfl (by decide) (by decide) (fun h1 ha hf => ?_)
  refine mm_aload_n dX10_begin_44 rfl 0 rfl ?_
  refine mm_iconst (v := nI 1) dX10_begin_45 (by decide) ?_
  refine cm_putI dX10_begin_46 ha hf zp_X10_51 (by decide) rfl rfl rfl rfl (fun h1 ha hf => ?_)
  refine mm_aload_n dX10_begin_49 rfl 0 rfl ?_
  refine mm_iconst (v := nI 0) dX10_begin_50 (by decide) ?_
  refine cm_putI dX10_begin_51 ha hf zp_X10_54 (by decide) rfl rfl rfl rfl (fun h1 ha hf => ?_)
  refine mm_iconst (v := nI 0) dX10_begin_54 (by decide) ?_
  refine mm_istore (L' := [(6, .int (nI (0))), (0, .ref (o + 35)), (1, .int (nI (sg))), (2, .int (nI (n))), (3, .int (a)), (4, .int (b)), (5, .int (c))]) dX10_begin_55 (by decide) rfl ?_
  refine mn_sub [0, 1, 2, 3, 4, 5, 6] rfl ?_
  obtain ⟨XA, hXA⟩ : ∃ XA, XA = (xu (xu (xu (xu (xu (xu X0 35 6 (nI (n))) 46 (0) (a)) 46 (1) (b)) 46 (2) (c)) 35 7 (nI (1))) 35 8 (nI (0))) := ⟨_, rfl⟩
  rw [← hXA] at ha
  have hb0 : (vs_ XA 36 sg ∧ XA 35 6 = nI n ∧ (∀ i, i < 3 → XA 46 i = wv i) ∧ XA 35 8 = nI 0 ∧ (∀ b i, ¬ (b = 35 ∧ 6 ≤ i ∧ i ≤ 8) → ¬ (b = 36 ∧ (i = 3 ∨ i = 4)) → b ≠ 37 → b ≠ 46 → b ≠ 48 → b ≠ 49 → XA b i = X b i)) := by
    refine ⟨vs_s hvs (fun b i z => ?_), ?_, fun i hi => ?_, ?_, fun b i n1 n2 n3 n4 n5 n6 => ?_⟩
    · rw [hXA, xu_z (by omega), xu_z (by omega), xu_z (by omega), xu_z (by omega), xu_z (by omega), xu_z (by omega)]
    · rw [hXA, xu_i (by decide), xu_i (by decide), xu_a (by decide), xu_a (by decide), xu_a (by decide), xu_s]
    · have hi3 : i = 0 ∨ i = 1 ∨ i = 2 := by omega
      rw [hXA, hwv, xu_a (by decide), xu_a (by decide)]
      rcases hi3 with rfl | rfl | rfl
      · rw [xu_i (by decide), xu_i (by decide), xu_s]; rfl
      · rw [xu_i (by decide), xu_s]; rfl
      · rw [xu_s]; rfl
    · rw [hXA, xu_s]
    · rw [hXA, xu_z (by omega), xu_z (by omega), xu_z (by omega), xu_z (by omega), xu_z (by omega), xu_z (by omega)]; exact hx0 b i n2 n3
  have h357 : XA 35 7 = nI (rwN sg wv 0) := by rw [hXA, xu_i (by decide), xu_s]; rfl
  suffices lp : ∀ (m i : Nat) (X1 : Nat → Nat → Int32) (h1 : mm_H), i + m = n → (vs_ X1 36 sg ∧ X1 35 6 = nI n ∧ (∀ i, i < 3 → X1 46 i = wv i) ∧ X1 35 8 = nI 0 ∧ (∀ b i, ¬ (b = 35 ∧ 6 ≤ i ∧ i ≤ 8) → ¬ (b = 36 ∧ (i = 3 ∨ i = 4)) → b ≠ 37 → b ≠ 46 → b ≠ 48 → b ≠ 49 → X1 b i = X b i)) → (∀ j, j < i → wft X1 j (ftl sg wv j)) → X1 35 7 = nI (rwN sg wv i) → cm_at o X1 Y rl h1 → cm_fr o h h1 → mm_V (zz_K l D aa b0) 3 yX10_begin cX10_begin 8 none 57 [(6, .int (nI (i))), (0, .ref (o + 35)), (1, .int (nI (sg))), (2, .int (nI (n))), (3, .int (a)), (4, .int (b)), (5, .int (c))] [] h1 0 0 (fun rv h' => rv = none ∧ ∃ X' : Nat → Nat → Int32, cm_at o X' Y rl h' ∧ cm_fr o h h' ∧ wrt_ X' sg n wv ∧ X' 35 8 = nI 0 ∧ (∀ b i, ¬ (b = 35 ∧ 6 ≤ i ∧ i ≤ 8) → ¬ (b = 36 ∧ (i = 3 ∨ i = 4)) → b ≠ 37 → b ≠ 46 → b ≠ 48 → b ≠ 49 → X' b i = X b i)) from lp n 0 XA _ (by omega) hb0 (fun j hj => by omega) h357 ha hf
  intro m
  induction m with
  | zero =>
    intro i X1 h1 him hb hw h357 ha hf
    have hrw := rwN_le (sg := sg) (wv := wv) i
    refine mm_iload dX10_begin_57 0 rfl ?_
    refine mm_aload_n dX10_begin_59 rfl 1 rfl ?_
    refine cm_getI dX10_begin_60 ha zr_X10_47 (by decide) rfl rfl ?_
    refine mn_top (u := .int (nI (n))) (congrArg Value.int ((hb.2.1))) ?_
    refine mn_icmp_ge (tgt := 174) dX10_begin_63 (by decide) (by omega) (by omega) (fun c63 => ?_) (fun c63 => ?_)
    · have e : i = n := by omega
      rw [e] at hw h357
      exact mm_vret dX10_begin_174 rfl (⟨rfl, X1, ha, hf, ⟨hb.1, hb.2.1, hb.2.2.1, hw, h357⟩, hb.2.2.2.1, hb.2.2.2.2⟩)
    · omega
  | succ m ih =>
    intro i X1 h1 him hb hw h357 ha hf
    have hrw := rwN_le (sg := sg) (wv := wv) i
    refine mm_iload dX10_begin_57 0 rfl ?_
    refine mm_aload_n dX10_begin_59 rfl 1 rfl ?_
    refine cm_getI dX10_begin_60 ha zr_X10_47 (by decide) rfl rfl ?_
    refine mn_top (u := .int (nI (n))) (congrArg Value.int ((hb.2.1))) ?_
    refine mn_icmp_ge (tgt := 174) dX10_begin_63 (by decide) (by omega) (by omega) (fun c63 => ?_) (fun c63 => ?_)
    · omega
    · refine mm_aload_n dX10_begin_66 rfl 1 rfl ?_
      refine cm_getR (b := 49) dX10_begin_67 ha zr_X10_28 (by decide) rfl rfl rfl ?_
      refine mm_iload dX10_begin_70 0 rfl ?_
      refine mm_iconst (v := nI 0) dX10_begin_72 (by decide) ?_
      refine cm_iast (i := i) dX10_begin_73 ha hf (by decide) rfl (by omega) (by decide) (fun h1 ha hf => ?_)
      refine mm_iconst (v := nI 0) dX10_begin_74 (by decide) ?_
      refine mm_istore (L' := [(7, .int (nI (0))), (6, .int (nI (i))), (0, .ref (o + 35)), (1, .int (nI (sg))), (2, .int (nI (n))), (3, .int (a)), (4, .int (b)), (5, .int (c))]) dX10_begin_75 (by decide) rfl ?_
      refine mn_sub [0, 1, 2, 3, 4, 5, 6, 7] rfl ?_
      have hrw3 : rwN sg wv i ≤ 2744 := Nat.le_trans hrw (Nat.le_trans (Nat.pow_le_pow_right (by decide) (show i ≤ 3 by omega)) (by decide))
      suffices lq : ∀ (k ch : Nat) (X2 : Nat → Nat → Int32) (h2 : mm_H), ch + k = 14 → (vs_ X2 36 sg ∧ X2 35 6 = nI n ∧ (∀ i, i < 3 → X2 46 i = wv i) ∧ X2 35 8 = nI 0 ∧ (∀ b i, ¬ (b = 35 ∧ 6 ≤ i ∧ i ≤ 8) → ¬ (b = 36 ∧ (i = 3 ∨ i = 4)) → b ≠ 37 → b ≠ 46 → b ≠ 48 → b ≠ 49 → X2 b i = X b i)) → (∀ j, j < i → wft X2 j (ftl sg wv j)) → X2 35 7 = nI (rwN sg wv i) → wft X2 i ((List.range ch).filter (fitF sg wv i)) → cm_at o X2 Y rl h2 → cm_fr o h h2 → mm_V (zz_K l D aa b0) 3 yX10_begin cX10_begin 8 none 77 [(7, .int (nI (ch))), (6, .int (nI (i))), (0, .ref (o + 35)), (1, .int (nI (sg))), (2, .int (nI (n))), (3, .int (a)), (4, .int (b)), (5, .int (c))] [] h2 0 0 (fun rv h' => rv = none ∧ ∃ X' : Nat → Nat → Int32, cm_at o X' Y rl h' ∧ cm_fr o h h' ∧ wrt_ X' sg n wv ∧ X' 35 8 = nI 0 ∧ (∀ b i, ¬ (b = 35 ∧ 6 ≤ i ∧ i ≤ 8) → ¬ (b = 36 ∧ (i = 3 ∨ i = 4)) → b ≠ 37 → b ≠ 46 → b ≠ 48 → b ≠ 49 → X' b i = X b i)) from lq 14 0 _ _ (by omega) ⟨vs_s hb.1 (fun b i z => xu_a (by omega)), (xu_a (by decide)).trans hb.2.1, fun j hj => (xu_a (by decide)).trans (hb.2.2.1 j hj), (xu_a (by decide)).trans hb.2.2.2.1, fun b i n1 n2 n3 n4 n5 n6 => (xu_a n6).trans (hb.2.2.2.2 b i n1 n2 n3 n4 n5 n6)⟩ (fun j hj => wft_x (hw j hj) (fun q hq => xu_a (by decide)) (xu_i (by omega)) ftl_len) ((xu_a (by decide)).trans h357) ⟨xu_s, fun j d hd => by cases hd⟩ ha hf
      intro k
      induction k with
      | zero =>
        intro ch X2 h2 hck hb hw h357 hp ha hf
        have hpl := flr_len (p := fitF sg wv i) (c := ch)
        refine mm_iload dX10_begin_77 0 rfl ?_
        refine mm_bipush (v := nI 14) dX10_begin_79 (by decide) ?_
        refine mn_icmp_ge (tgt := 152) dX10_begin_81 (by decide) (by omega) (by omega) (fun c81 => ?_) (fun c81 => ?_)
        · rw [show ch = 14 from by omega] at hp
          have hp : wft X2 i (ftl sg wv i) := hp
          have hl14 := ftl_len (sg := sg) (wv := wv) (i := i)
          refine mm_aload_n dX10_begin_152 rfl 2 rfl ?_
          refine mm_dup dX10_begin_153 rfl ?_
          refine cm_getI dX10_begin_154 ha zr_X10_51 (by decide) rfl rfl ?_
          refine mn_top (u := .int (nI (rwN sg wv i))) (congrArg Value.int ((h357))) ?_
          refine mm_aload_n dX10_begin_157 rfl 2 rfl ?_
          refine cm_getR (b := 49) dX10_begin_158 ha zr_X10_28 (by decide) rfl rfl rfl ?_
          refine mm_iload dX10_begin_161 1 rfl ?_
          refine cm_iald (i := i) dX10_begin_163 ha (by decide) rfl (by omega) (by decide) ?_
          refine mn_top (u := .int (nI ((ftl sg wv i).length))) (congrArg Value.int ((hp.1))) ?_
          refine mn_imul dX10_begin_164 ?_
          refine mn_top (u := .int (nI (rwN sg wv (i + 1)))) (congrArg Value.int (rfl)) ?_
          refine cm_putI dX10_begin_165 ha hf zp_X10_51 (by decide) rfl rfl rfl rfl (fun h2 ha hf => ?_)
          refine mn_iinc (m := 1) (L' := [(6, .int (nI (i + 1))), (7, .int (nI (ch))), (0, .ref (o + 35)), (1, .int (nI (sg))), (2, .int (nI (n))), (3, .int (a)), (4, .int (b)), (5, .int (c))]) dX10_begin_168 (by decide) 1 rfl (by decide) rfl ?_
          refine mm_goto (tgt := 57) dX10_begin_171 (by decide) ?_
          refine mn_sub [0, 2, 3, 4, 5, 6, 7] rfl ?_
          refine ih (i + 1) _ _ (by omega) ⟨vs_s hb.1 (fun b i z => xu_a (by omega)), (xu_i (by decide)).trans hb.2.1, fun j hj => (xu_a (by decide)).trans (hb.2.2.1 j hj), (xu_i (by decide)).trans hb.2.2.2.1, fun b i n1 n2 n3 n4 n5 n6 => (xu_z (by omega)).trans (hb.2.2.2.2 b i n1 n2 n3 n4 n5 n6)⟩ (fun j hj => ?_) xu_s ha hf
          by_cases e : j = i
          · rw [e]; exact wft_x hp (fun q hq => xu_a (by decide)) (xu_a (by decide)) ftl_len
          · exact wft_x (hw j (by omega)) (fun q hq => xu_a (by decide)) (xu_a (by decide)) ftl_len
        · omega
      | succ k ih2 =>
        intro ch X2 h2 hck hb hw h357 hp ha hf
        have hpl := flr_len (p := fitF sg wv i) (c := ch)
        refine mm_iload dX10_begin_77 0 rfl ?_
        refine mm_bipush (v := nI 14) dX10_begin_79 (by decide) ?_
        refine mn_icmp_ge (tgt := 152) dX10_begin_81 (by decide) (by omega) (by omega) (fun c81 => ?_) (fun c81 => ?_)
        · omega
        · refine mm_aload_n dX10_begin_84 rfl 2 rfl ?_
          refine mm_iload dX10_begin_85 0 rfl ?_
          refine mm_iconst (v := nI 1) dX10_begin_87 (by decide) ?_
          refine mn_ishr dX10_begin_88 (by omega) (by omega) ?_
          refine mn_top (u := .int (nI (ch / 2))) (congrArg Value.int (by rw [shr_1])) ?_
          refine mm_iload dX10_begin_89 0 rfl ?_
          refine mm_iconst (v := nI 1) dX10_begin_91 (by decide) ?_
          refine mn_iand dX10_begin_92 ?_
          refine mn_top (u := .int (nI (ch % 2))) (congrArg Value.int (by rw [and_1])) ?_
          refine mm_iconst (v := nI 1) dX10_begin_93 (by decide) ?_
          refine mn_icmp_ne (tgt := 101) dX10_begin_94 (by decide) (by omega) (by omega) (fun c94 => ?_) (fun c94 => ?_)
          · refine mm_iconst (v := nI 0) dX10_begin_101 (by decide) ?_
            refine mn_top (u := .int (nI (Bool.toNat (decide (ch % 2 = 1))))) (congrArg Value.int (by rw [decide_eq_false (by omega)]; rfl)) ?_
            refine mm_aload_n dX10_begin_102 rfl 2 rfl ?_
            refine cm_getR (b := 46) dX10_begin_103 ha zr_X10_18 (by decide) rfl rfl rfl ?_
            refine mm_iload dX10_begin_106 1 rfl ?_
            refine cm_iald (i := i) dX10_begin_108 ha (by decide) rfl (by omega) (by decide) ?_
            refine mn_top (u := .int (wv i)) (congrArg Value.int ((hb.2.2.1 i (by omega)))) ?_
            refine cm_callVr (As := [.int (nI (ch / 2)), .int (nI (Bool.toNat (decide (ch % 2 = 1)))), .int (wv i)]) (rest := []) (d2 := 2) dX10_begin_109 ha (by decide) rfl zz_clX10 zc_X10_57 zs_X10_canBe rfl rfl (Nat.le_of_ble_eq_true rfl) (Nat.le_of_ble_eq_true rfl) (by decide) (cw_canBe ha hb.1 (by omega)) ?_
            refine mn_ifB_eq (tgt := 146) dX10_begin_112 (by decide) (fun c112 => ?_) (fun c112 => ?_)
            · have hff : ¬ fitF sg wv i ch = true := fun z => by have z : cbB sg (ch / 2) (decide (ch % 2 = 1)) (wv i) = true := z; rw [c112] at z; cases z
              refine mn_iinc (m := 1) (L' := [(7, .int (nI (ch + 1))), (6, .int (nI (i))), (0, .ref (o + 35)), (1, .int (nI (sg))), (2, .int (nI (n))), (3, .int (a)), (4, .int (b)), (5, .int (c))]) dX10_begin_146 (by decide) 0 rfl (by decide) rfl ?_
              refine mm_goto (tgt := 77) dX10_begin_149 (by decide) ?_
              refine mn_sub [0, 1, 2, 3, 4, 5, 6, 7] rfl ?_
              refine ih2 (ch + 1) X2 h2 (by omega) hb hw h357 ?_ ha hf
              rw [flr_s (p := fitF sg wv i) (c := ch), if_neg hff, List.append_nil]
              exact hp
            · have hff : fitF sg wv i ch = true := c112
              refine mm_aload_n dX10_begin_115 rfl 2 rfl ?_
              refine cm_getR (b := 48) dX10_begin_116 ha zr_X10_25 (by decide) rfl rfl rfl ?_
              refine mm_iload dX10_begin_119 1 rfl ?_
              refine mm_bipush (v := nI 14) dX10_begin_121 (by decide) ?_
              refine mn_imul dX10_begin_123 ?_
              refine mm_aload_n dX10_begin_124 rfl 2 rfl ?_
              refine cm_getR (b := 49) dX10_begin_125 ha zr_X10_28 (by decide) rfl rfl rfl ?_
              refine mm_iload dX10_begin_128 1 rfl ?_
              refine cm_iald (i := i) dX10_begin_130 ha (by decide) rfl (by omega) (by decide) ?_
              refine mn_top (u := .int (nI (((List.range ch).filter (fitF sg wv i)).length))) (congrArg Value.int ((hp.1))) ?_
              refine mn_iadd dX10_begin_131 ?_
              refine mm_iload dX10_begin_132 0 rfl ?_
              refine cm_iast (i := ((i) * (14)) + (((List.range ch).filter (fitF sg wv i)).length)) dX10_begin_134 ha hf (by decide) rfl (by omega) (by decide) (fun h2 ha hf => ?_)
              refine mm_aload_n dX10_begin_135 rfl 2 rfl ?_
              refine cm_getR (b := 49) dX10_begin_136 ha zr_X10_28 (by decide) rfl rfl rfl ?_
              refine mm_iload dX10_begin_139 1 rfl ?_
              refine mm_dup2 dX10_begin_141 rfl rfl ?_
              refine cm_iald (i := i) dX10_begin_142 ha (by decide) rfl (by omega) (by decide) ?_
              refine mn_top (u := .int (nI (((List.range ch).filter (fitF sg wv i)).length))) (congrArg Value.int (Eq.trans (xu_a (by decide)) ((hp.1)))) ?_
              refine mm_iconst (v := nI 1) dX10_begin_143 (by decide) ?_
              refine mn_iadd dX10_begin_144 ?_
              refine cm_iast (i := i) dX10_begin_145 ha hf (by decide) rfl (by omega) (by decide) (fun h2 ha hf => ?_)
              refine mn_iinc (m := 1) (L' := [(7, .int (nI (ch + 1))), (6, .int (nI (i))), (0, .ref (o + 35)), (1, .int (nI (sg))), (2, .int (nI (n))), (3, .int (a)), (4, .int (b)), (5, .int (c))]) dX10_begin_146 (by decide) 0 rfl (by decide) rfl ?_
              refine mm_goto (tgt := 77) dX10_begin_149 (by decide) ?_
              refine mn_sub [0, 1, 2, 3, 4, 5, 6, 7] rfl ?_
              refine ih2 (ch + 1) _ _ (by omega) ⟨vs_s hb.1 (fun b i z => (xu_a (by omega)).trans (xu_a (by omega))), (xu_a (by decide)).trans ((xu_a (by decide)).trans hb.2.1), fun j hj => (xu_a (by decide)).trans ((xu_a (by decide)).trans (hb.2.2.1 j hj)), (xu_a (by decide)).trans ((xu_a (by decide)).trans hb.2.2.2.1), fun b i n1 n2 n3 n4 n5 n6 => (xu_a n6).trans ((xu_a n5).trans (hb.2.2.2.2 b i n1 n2 n3 n4 n5 n6))⟩ (fun j hj => wft_x (hw j hj) (fun q hq => (xu_a (by decide)).trans (xu_i (by omega))) ((xu_i (by omega)).trans (xu_a (by decide))) ftl_len) ((xu_a (by decide)).trans ((xu_a (by decide)).trans h357)) ?_ ha hf
              rw [flr_s (p := fitF sg wv i) (c := ch), if_pos hff]
              exact wft_s hp
          · refine mm_iconst (v := nI 1) dX10_begin_97 (by decide) ?_
            refine mm_goto (tgt := 102) dX10_begin_98 (by decide) ?_
            refine mn_top (u := .int (nI (Bool.toNat (decide (ch % 2 = 1))))) (congrArg Value.int (by rw [decide_eq_true (by omega)]; rfl)) ?_
            refine mm_aload_n dX10_begin_102 rfl 2 rfl ?_
            refine cm_getR (b := 46) dX10_begin_103 ha zr_X10_18 (by decide) rfl rfl rfl ?_
            refine mm_iload dX10_begin_106 1 rfl ?_
            refine cm_iald (i := i) dX10_begin_108 ha (by decide) rfl (by omega) (by decide) ?_
            refine mn_top (u := .int (wv i)) (congrArg Value.int ((hb.2.2.1 i (by omega)))) ?_
            refine cm_callVr (As := [.int (nI (ch / 2)), .int (nI (Bool.toNat (decide (ch % 2 = 1)))), .int (wv i)]) (rest := []) (d2 := 2) dX10_begin_109 ha (by decide) rfl zz_clX10 zc_X10_57 zs_X10_canBe rfl rfl (Nat.le_of_ble_eq_true rfl) (Nat.le_of_ble_eq_true rfl) (by decide) (cw_canBe ha hb.1 (by omega)) ?_
            refine mn_ifB_eq (tgt := 146) dX10_begin_112 (by decide) (fun c112 => ?_) (fun c112 => ?_)
            · have hff : ¬ fitF sg wv i ch = true := fun z => by have z : cbB sg (ch / 2) (decide (ch % 2 = 1)) (wv i) = true := z; rw [c112] at z; cases z
              refine mn_iinc (m := 1) (L' := [(7, .int (nI (ch + 1))), (6, .int (nI (i))), (0, .ref (o + 35)), (1, .int (nI (sg))), (2, .int (nI (n))), (3, .int (a)), (4, .int (b)), (5, .int (c))]) dX10_begin_146 (by decide) 0 rfl (by decide) rfl ?_
              refine mm_goto (tgt := 77) dX10_begin_149 (by decide) ?_
              refine mn_sub [0, 1, 2, 3, 4, 5, 6, 7] rfl ?_
              refine ih2 (ch + 1) X2 h2 (by omega) hb hw h357 ?_ ha hf
              rw [flr_s (p := fitF sg wv i) (c := ch), if_neg hff, List.append_nil]
              exact hp
            · have hff : fitF sg wv i ch = true := c112
              refine mm_aload_n dX10_begin_115 rfl 2 rfl ?_
              refine cm_getR (b := 48) dX10_begin_116 ha zr_X10_25 (by decide) rfl rfl rfl ?_
              refine mm_iload dX10_begin_119 1 rfl ?_
              refine mm_bipush (v := nI 14) dX10_begin_121 (by decide) ?_
              refine mn_imul dX10_begin_123 ?_
              refine mm_aload_n dX10_begin_124 rfl 2 rfl ?_
              refine cm_getR (b := 49) dX10_begin_125 ha zr_X10_28 (by decide) rfl rfl rfl ?_
              refine mm_iload dX10_begin_128 1 rfl ?_
              refine cm_iald (i := i) dX10_begin_130 ha (by decide) rfl (by omega) (by decide) ?_
              refine mn_top (u := .int (nI (((List.range ch).filter (fitF sg wv i)).length))) (congrArg Value.int ((hp.1))) ?_
              refine mn_iadd dX10_begin_131 ?_
              refine mm_iload dX10_begin_132 0 rfl ?_
              refine cm_iast (i := ((i) * (14)) + (((List.range ch).filter (fitF sg wv i)).length)) dX10_begin_134 ha hf (by decide) rfl (by omega) (by decide) (fun h2 ha hf => ?_)
              refine mm_aload_n dX10_begin_135 rfl 2 rfl ?_
              refine cm_getR (b := 49) dX10_begin_136 ha zr_X10_28 (by decide) rfl rfl rfl ?_
              refine mm_iload dX10_begin_139 1 rfl ?_
              refine mm_dup2 dX10_begin_141 rfl rfl ?_
              refine cm_iald (i := i) dX10_begin_142 ha (by decide) rfl (by omega) (by decide) ?_
              refine mn_top (u := .int (nI (((List.range ch).filter (fitF sg wv i)).length))) (congrArg Value.int (Eq.trans (xu_a (by decide)) ((hp.1)))) ?_
              refine mm_iconst (v := nI 1) dX10_begin_143 (by decide) ?_
              refine mn_iadd dX10_begin_144 ?_
              refine cm_iast (i := i) dX10_begin_145 ha hf (by decide) rfl (by omega) (by decide) (fun h2 ha hf => ?_)
              refine mn_iinc (m := 1) (L' := [(7, .int (nI (ch + 1))), (6, .int (nI (i))), (0, .ref (o + 35)), (1, .int (nI (sg))), (2, .int (nI (n))), (3, .int (a)), (4, .int (b)), (5, .int (c))]) dX10_begin_146 (by decide) 0 rfl (by decide) rfl ?_
              refine mm_goto (tgt := 77) dX10_begin_149 (by decide) ?_
              refine mn_sub [0, 1, 2, 3, 4, 5, 6, 7] rfl ?_
              refine ih2 (ch + 1) _ _ (by omega) ⟨vs_s hb.1 (fun b i z => (xu_a (by omega)).trans (xu_a (by omega))), (xu_a (by decide)).trans ((xu_a (by decide)).trans hb.2.1), fun j hj => (xu_a (by decide)).trans ((xu_a (by decide)).trans (hb.2.2.1 j hj)), (xu_a (by decide)).trans ((xu_a (by decide)).trans hb.2.2.2.1), fun b i n1 n2 n3 n4 n5 n6 => (xu_a n6).trans ((xu_a n5).trans (hb.2.2.2.2 b i n1 n2 n3 n4 n5 n6))⟩ (fun j hj => wft_x (hw j hj) (fun q hq => (xu_a (by decide)).trans (xu_i (by omega))) ((xu_i (by omega)).trans (xu_a (by decide))) ftl_len) ((xu_a (by decide)).trans ((xu_a (by decide)).trans h357)) ?_ ha hf
              rw [flr_s (p := fitF sg wv i) (c := ch), if_pos hff]
              exact wft_s hp
