/-! what is found is arranged -/
set_option maxRecDepth 100000 in
set_option maxHeartbeats 4000000 in
theorem cf_arrangeM {l : Launch} {D : va_G} {aa : Nat → ClassId} {b0 : Nat} {h : mm_H} {o : Nat} {X : Nat → Nat → Int32} {Y : Nat → Nat → Int64} {rl : Option Nat}  (ha : cm_at o X Y rl h) (hmany : X 20 4 = nI 1001) : mm_V (zz_K l D aa b0) 1 yX3_arrange cX3_arrange 3 none 0 [(0, .ref (o + 20))] [] h 0 0 (fun rv h' => rv = none ∧ h' = h) := by
  refine mm_aload_n dX3_arrange_0 rfl 0 rfl ?_
  refine cm_callVr (As := []) (rest := []) (d2 := 0) dX3_arrange_1 ha (by decide) rfl zz_clX3 zc_X3_29 zs_X3_isMany rfl rfl (Nat.le_of_ble_eq_true rfl) (Nat.le_of_ble_eq_true rfl) (by decide) (cf_isMany ha hmany (by decide)) ?_
  refine mn_ifB_eq (tgt := 8) dX3_arrange_4 (by decide) (fun c4 => ?_) (fun c4 => ?_)
  · exact absurd c4 (by decide)
  · exact mm_vret dX3_arrange_7 rfl (⟨rfl, rfl⟩)
set_option maxRecDepth 100000 in
set_option maxHeartbeats 4000000 in
theorem cf_arrange {l : Launch} {D : va_G} {aa : Nat → ClassId} {b0 : Nat} {h : mm_H} {o : Nat} {X : Nat → Nat → Int32} {Y : Nat → Nat → Int64} {rl : Option Nat} {ks : List Nat} (ha : cm_at o X Y rl h) (h4 : X 20 4 = nI ks.length) (hN : ks.length ≤ 1000) (hs : ∀ i, i < ks.length → X 22 i = nI (ks.getD i 0)) (hks : ∀ i, i < ks.length → ks.getD i 0 ≤ 127) : mm_V (zz_K l D aa b0) 1 yX3_arrange cX3_arrange 3 none 0 [(0, .ref (o + 20))] [] h 0 0 (fun rv h' => rv = none ∧ ∃ X' : Nat → Nat → Int32, cm_at o X' Y rl h' ∧ cm_fr o h h' ∧ (∀ b i, b ≠ 23 → b ≠ 24 → X' b i = X b i) ∧ ∀ j, j < ks.length → X' 23 (ps2 ks j) = nI j) := by
  have hcl : ∀ (j : Nat) (x : Nat), (ks.take j).count x ≤ 1000 := fun j x => Nat.le_trans take_le (Nat.le_trans List.count_le_length hN)
  have hcm : ∀ x : Nat, cum ks x ≤ 1000 := fun x => by have := cum_le (ks := ks) x; omega
  have hcc : ∀ x : Nat, cum ks x + ks.count x ≤ 1000 := fun x => hcm (x + 1)
  have hct : ∀ (j : Nat) (x : Nat), cum ks x + (ks.take j).count x ≤ 1000 := fun j x => by have h1 := hcc x; have h2 := take_le (ks := ks) (h := j) (s := x); omega
  have l3 : ∀ (m j : Nat) (X1 : Nat → Nat → Int32) (h1 : mm_H), j + m = ks.length → (∀ b i, b ≠ 23 → b ≠ 24 → X1 b i = X b i) → (∀ t, t ≤ 128 → X1 24 t = nI (cum ks t + (ks.take j).count t)) → (∀ i, i < j → X1 23 (ps2 ks i) = nI i) → cm_at o X1 Y rl h1 → cm_fr o h h1 → mm_V (zz_K l D aa b0) 1 yX3_arrange cX3_arrange 3 none 83 [(1, .int (nI (j))), (0, .ref (o + 20))] [] h1 0 0 (fun rv h' => rv = none ∧ ∃ X' : Nat → Nat → Int32, cm_at o X' Y rl h' ∧ cm_fr o h h' ∧ (∀ b i, b ≠ 23 → b ≠ 24 → X' b i = X b i) ∧ ∀ j, j < ks.length → X' 23 (ps2 ks j) = nI j) := by
    intro m
    induction m with
    | zero =>
      intro j X1 h1 hj hfr h24 h23 ha hf
      refine mm_iload_n dX3_arrange_83 rfl 0 rfl ?_
      refine mm_aload_n dX3_arrange_84 rfl 1 rfl ?_
      refine cm_getI dX3_arrange_85 ha zr_X3_25 (by decide) rfl rfl ?_
      refine mn_top (u := .int (nI (ks.length))) (congrArg Value.int (((hfr 20 4 (by decide) (by decide)).trans h4))) ?_
      refine mn_icmp_ge (tgt := 142) dX3_arrange_88 (by decide) (by omega) (by omega) (fun c88 => ?_) (fun c88 => ?_)
      · exact mm_vret dX3_arrange_142 rfl (⟨rfl, X1, ha, hf, hfr, fun i hi => h23 i (by omega)⟩)
      · omega
    | succ m ih =>
      intro j X1 h1 hj hfr h24 h23 ha hf
      refine mm_iload_n dX3_arrange_83 rfl 0 rfl ?_
      refine mm_aload_n dX3_arrange_84 rfl 1 rfl ?_
      refine cm_getI dX3_arrange_85 ha zr_X3_25 (by decide) rfl rfl ?_
      refine mn_top (u := .int (nI (ks.length))) (congrArg Value.int (((hfr 20 4 (by decide) (by decide)).trans h4))) ?_
      refine mn_icmp_ge (tgt := 142) dX3_arrange_88 (by decide) (by omega) (by omega) (fun c88 => ?_) (fun c88 => ?_)
      · omega
      · have hk := hks j (by omega)
        have hp := ps2_lt (ks := ks) (h := j) (by omega)
        have hpe : cum ks (ks.getD j 0) + (ks.take j).count (ks.getD j 0) = ps2 ks j := rfl
        have e24 : X1 24 (ks.getD j 0) = nI (ps2 ks j) := h24 _ (by omega)
        have tc := take_count (ks := ks) (h := j) (by omega)
        refine mm_aload_n dX3_arrange_91 rfl 1 rfl ?_
        refine cm_getR (b := 24) dX3_arrange_92 ha zr_X3_22 (by decide) rfl rfl rfl ?_
        refine mm_aload_n dX3_arrange_95 rfl 1 rfl ?_
        refine cm_getR (b := 22) dX3_arrange_96 ha zr_X3_15 (by decide) rfl rfl rfl ?_
        refine mm_iload_n dX3_arrange_99 rfl 0 rfl ?_
        refine cm_iald (i := j) dX3_arrange_100 ha (by decide) rfl (by omega) (by decide) ?_
        refine mn_top (u := .int (nI (ks.getD (j) 0))) (congrArg Value.int ((hfr 22 _ (by decide) (by decide)).trans (hs _ (by omega)))) ?_
        refine cm_iald (i := ks.getD (j) 0) dX3_arrange_101 ha (by decide) rfl (by omega) (by decide) ?_
        refine mn_top (u := .int (nI (ps2 ks j))) (congrArg Value.int (e24)) ?_
        refine mm_istore_n (L' := [(2, .int (nI (ps2 ks j))), (1, .int (nI (j))), (0, .ref (o + 20))]) dX3_arrange_102 rfl (by decide) rfl ?_
        refine mm_iload_n dX3_arrange_103 rfl 0 rfl ?_
        refine mn_if_lt (tgt := 136) dX3_arrange_104 (by decide) (by omega) ?_
        refine mm_iload_n dX3_arrange_107 rfl 0 rfl ?_
        refine mm_sipush (v := nI 1000) dX3_arrange_108 (by decide) ?_
        refine mn_icmp_ge (tgt := 136) dX3_arrange_111 (by decide) (by omega) (by omega) (fun c111 => ?_) (fun c111 => ?_)
        · omega
        · refine mm_aload_n dX3_arrange_114 rfl 2 rfl ?_
          refine cm_getR (b := 23) dX3_arrange_115 ha zr_X3_19 (by decide) rfl rfl rfl ?_
          refine mm_iload_n dX3_arrange_118 rfl 0 rfl ?_
          refine mm_iload_n dX3_arrange_119 rfl 1 rfl ?_
          refine cm_iast (i := ps2 ks j) dX3_arrange_120 ha hf (by decide) rfl (by omega) (by decide) (fun h1 ha hf => ?_)
          refine mm_aload_n dX3_arrange_121 rfl 2 rfl ?_
          refine cm_getR (b := 24) dX3_arrange_122 ha zr_X3_22 (by decide) rfl rfl rfl ?_
          refine mm_aload_n dX3_arrange_125 rfl 2 rfl ?_
          refine cm_getR (b := 22) dX3_arrange_126 ha zr_X3_15 (by decide) rfl rfl rfl ?_
          refine mm_iload_n dX3_arrange_129 rfl 1 rfl ?_
          refine cm_iald (i := j) dX3_arrange_130 ha (by decide) rfl (by omega) (by decide) ?_
          refine mn_top (u := .int (nI (ks.getD (j) 0))) (congrArg Value.int ((xu_a (by decide)).trans ((hfr 22 _ (by decide) (by decide)).trans (hs _ (by omega))))) ?_
          refine mm_dup2 dX3_arrange_131 rfl rfl ?_
          refine cm_iald (i := ks.getD (j) 0) dX3_arrange_132 ha (by decide) rfl (by omega) (by decide) ?_
          refine mn_top (u := .int (nI (ps2 ks j))) (congrArg Value.int ((xu_a (by decide)).trans e24)) ?_
          refine mm_iconst (v := nI 1) dX3_arrange_133 (by decide) ?_
          refine mn_iadd dX3_arrange_134 ?_
          refine cm_iast (i := ks.getD (j) 0) dX3_arrange_135 ha hf (by decide) rfl (by omega) (by decide) (fun h1 ha hf => ?_)
          refine mn_iinc (m := 1) (L' := [(1, .int (nI (j + 1))), (2, .int (nI (ps2 ks j))), (0, .ref (o + 20))]) dX3_arrange_136 (by decide) 1 rfl (by decide) rfl ?_
          refine mm_goto (tgt := 83) dX3_arrange_139 (by decide) ?_
          refine mn_sub [0, 2] rfl ?_
          refine ih (j + 1) _ _ (by omega) (fun b i n1 n2 => (xu_a n2).trans ((xu_a n1).trans (hfr b i n1 n2))) (fun t ht => ?_) (fun i hi => ?_) ha hf
          · by_cases e : t = ks.getD j 0
            · subst e; rw [tc.1, ← Nat.add_assoc, hpe]; exact xu_s
            · rw [tc.2 t e]; exact (xu_i e).trans ((xu_a (by decide)).trans (h24 t ht))
          · by_cases e : i = j
            · subst e; exact (xu_a (by decide)).trans xu_s
            · exact (xu_a (by decide)).trans ((xu_i (ps2_inj (by omega) (by omega) (by omega))).trans (h23 i (by omega)))
  have l2 : ∀ (m s : Nat) (X1 : Nat → Nat → Int32) (h1 : mm_H), s + m = 129 → 1 ≤ s → (∀ b i, b ≠ 23 → b ≠ 24 → X1 b i = X b i) → (∀ t, t ≤ 128 → X1 24 t = nI (if t < s then cum ks t else ks.count (t - 1))) → cm_at o X1 Y rl h1 → cm_fr o h h1 → mm_V (zz_K l D aa b0) 1 yX3_arrange cX3_arrange 3 none 51 [(1, .int (nI (s))), (0, .ref (o + 20))] [] h1 0 0 (fun rv h' => rv = none ∧ ∃ X' : Nat → Nat → Int32, cm_at o X' Y rl h' ∧ cm_fr o h h' ∧ (∀ b i, b ≠ 23 → b ≠ 24 → X' b i = X b i) ∧ ∀ j, j < ks.length → X' 23 (ps2 ks j) = nI j) := by
    intro m
    induction m with
    | zero =>
      intro s X1 h1 hj h1s hfr h24 ha hf
      refine mm_iload_n dX3_arrange_51 rfl 0 rfl ?_
      refine mm_sipush (v := nI 128) dX3_arrange_52 (by decide) ?_
      refine mn_icmp_gt (tgt := 81) dX3_arrange_55 (by decide) (by omega) (by omega) (fun c55 => ?_) (fun c55 => ?_)
      · refine mm_iconst (v := nI 0) dX3_arrange_81 (by decide) ?_
        refine mm_istore_n (L' := [(1, .int (nI (0))), (0, .ref (o + 20))]) dX3_arrange_82 rfl (by decide) rfl ?_
        refine mn_sub [0, 1] rfl ?_
        refine l3 ks.length 0 X1 h1 (by omega) hfr (fun t ht => ?_) (fun i hi => by omega) ha hf
        rw [h24 t ht, if_pos (by omega)]; rfl
      · omega
    | succ m ih =>
      intro s X1 h1 hj h1s hfr h24 ha hf
      refine mm_iload_n dX3_arrange_51 rfl 0 rfl ?_
      refine mm_sipush (v := nI 128) dX3_arrange_52 (by decide) ?_
      refine mn_icmp_gt (tgt := 81) dX3_arrange_55 (by decide) (by omega) (by omega) (fun c55 => ?_) (fun c55 => ?_)
      · omega
      · have e1 : X1 24 s = nI (ks.count (s - 1)) := by rw [h24 s (by omega), if_neg (by omega)]
        have e2 : X1 24 (s - 1) = nI (cum ks (s - 1)) := by rw [h24 (s - 1) (by omega), if_pos (by omega)]
        have e3 : ks.count (s - 1) + cum ks (s - 1) = cum ks s := by rw [show cum ks s = cum ks (s - 1 + 1) from by rw [show s - 1 + 1 = s from by omega]]; exact Nat.add_comm _ _
        refine mm_aload_n dX3_arrange_58 rfl 1 rfl ?_
        refine cm_getR (b := 24) dX3_arrange_59 ha zr_X3_22 (by decide) rfl rfl rfl ?_
        refine mm_iload_n dX3_arrange_62 rfl 0 rfl ?_
        refine mm_dup2 dX3_arrange_63 rfl rfl ?_
        refine cm_iald (i := s) dX3_arrange_64 ha (by decide) rfl (by omega) (by decide) ?_
        refine mn_top (u := .int (nI (ks.count (s - 1)))) (congrArg Value.int (e1)) ?_
        refine mm_aload_n dX3_arrange_65 rfl 1 rfl ?_
        refine cm_getR (b := 24) dX3_arrange_66 ha zr_X3_22 (by decide) rfl rfl rfl ?_
        refine mm_iload_n dX3_arrange_69 rfl 0 rfl ?_
        refine mm_iconst (v := nI 1) dX3_arrange_70 (by decide) ?_
        refine mn_isub dX3_arrange_71 (by omega) ?_
        refine cm_iald (i := (s) - (1)) dX3_arrange_72 ha (by decide) rfl (by omega) (by decide) ?_
        refine mn_top (u := .int (nI (cum ks (s - 1)))) (congrArg Value.int (e2)) ?_
        refine mn_iadd dX3_arrange_73 ?_
        refine mn_top (u := .int (nI (cum ks s))) (congrArg Value.int (by rw [e3])) ?_
        refine cm_iast (i := s) dX3_arrange_74 ha hf (by decide) rfl (by omega) (by decide) (fun h1 ha hf => ?_)
        refine mn_iinc (m := 1) (L' := [(1, .int (nI (s + 1))), (0, .ref (o + 20))]) dX3_arrange_75 (by decide) 0 rfl (by decide) rfl ?_
        refine mm_goto (tgt := 51) dX3_arrange_78 (by decide) ?_
        refine mn_sub [0, 1] rfl ?_
        refine ih (s + 1) _ _ (by omega) (by omega) (fun b i n1 n2 => (xu_a n2).trans (hfr b i n1 n2)) (fun t ht => ?_) ha hf
        by_cases e : t = s
        · subst e; rw [if_pos (by omega)]; exact xu_s
        · rw [xu_i e, h24 t ht]; by_cases e2 : t < s
          · rw [if_pos e2, if_pos (by omega)]
          · rw [if_neg e2, if_neg (by omega)]
  have l1 : ∀ (m j : Nat) (X1 : Nat → Nat → Int32) (h1 : mm_H), j + m = ks.length → (∀ b i, b ≠ 23 → b ≠ 24 → X1 b i = X b i) → (X1 24 0 = nI 0 ∧ ∀ t, t < 128 → X1 24 (t + 1) = nI ((ks.take j).count t)) → cm_at o X1 Y rl h1 → cm_fr o h h1 → mm_V (zz_K l D aa b0) 1 yX3_arrange cX3_arrange 3 none 18 [(1, .int (nI (j))), (0, .ref (o + 20))] [] h1 0 0 (fun rv h' => rv = none ∧ ∃ X' : Nat → Nat → Int32, cm_at o X' Y rl h' ∧ cm_fr o h h' ∧ (∀ b i, b ≠ 23 → b ≠ 24 → X' b i = X b i) ∧ ∀ j, j < ks.length → X' 23 (ps2 ks j) = nI j) := by
    intro m
    induction m with
    | zero =>
      intro j X1 h1 hj hfr h24 ha hf
      refine mm_iload_n dX3_arrange_18 rfl 0 rfl ?_
      refine mm_aload_n dX3_arrange_19 rfl 1 rfl ?_
      refine cm_getI dX3_arrange_20 ha zr_X3_25 (by decide) rfl rfl ?_
      refine mn_top (u := .int (nI (ks.length))) (congrArg Value.int (((hfr 20 4 (by decide) (by decide)).trans h4))) ?_
      refine mn_icmp_ge (tgt := 49) dX3_arrange_23 (by decide) (by omega) (by omega) (fun c23 => ?_) (fun c23 => ?_)
      · refine mm_iconst (v := nI 1) dX3_arrange_49 (by decide) ?_
        refine mm_istore_n (L' := [(1, .int (nI (1))), (0, .ref (o + 20))]) dX3_arrange_50 rfl (by decide) rfl ?_
        refine mn_sub [0, 1] rfl ?_
        refine l2 128 1 X1 h1 (by omega) (by omega) hfr (fun t ht => ?_) ha hf
        by_cases e : t < 1
        · rw [if_pos e, show t = 0 from by omega]; exact h24.1
        · rw [if_neg e]; have := h24.2 (t - 1) (by omega); rw [show t - 1 + 1 = t from by omega, List.take_of_length_le (by omega)] at this; exact this
      · omega
    | succ m ih =>
      intro j X1 h1 hj hfr h24 ha hf
      refine mm_iload_n dX3_arrange_18 rfl 0 rfl ?_
      refine mm_aload_n dX3_arrange_19 rfl 1 rfl ?_
      refine cm_getI dX3_arrange_20 ha zr_X3_25 (by decide) rfl rfl ?_
      refine mn_top (u := .int (nI (ks.length))) (congrArg Value.int (((hfr 20 4 (by decide) (by decide)).trans h4))) ?_
      refine mn_icmp_ge (tgt := 49) dX3_arrange_23 (by decide) (by omega) (by omega) (fun c23 => ?_) (fun c23 => ?_)
      · omega
      · have hk := hks j (by omega)
        have tc := take_count (ks := ks) (h := j) (by omega)
        have hc1 := hcl j (ks.getD j 0)
        refine mm_aload_n dX3_arrange_26 rfl 1 rfl ?_
        refine cm_getR (b := 24) dX3_arrange_27 ha zr_X3_22 (by decide) rfl rfl rfl ?_
        refine mm_aload_n dX3_arrange_30 rfl 1 rfl ?_
        refine cm_getR (b := 22) dX3_arrange_31 ha zr_X3_15 (by decide) rfl rfl rfl ?_
        refine mm_iload_n dX3_arrange_34 rfl 0 rfl ?_
        refine cm_iald (i := j) dX3_arrange_35 ha (by decide) rfl (by omega) (by decide) ?_
        refine mn_top (u := .int (nI (ks.getD (j) 0))) (congrArg Value.int ((hfr 22 _ (by decide) (by decide)).trans (hs _ (by omega)))) ?_
        refine mm_iconst (v := nI 1) dX3_arrange_36 (by decide) ?_
        refine mn_iadd dX3_arrange_37 ?_
        refine mm_dup2 dX3_arrange_38 rfl rfl ?_
        refine cm_iald (i := (ks.getD (j) 0) + (1)) dX3_arrange_39 ha (by decide) rfl (by omega) (by decide) ?_
        refine mn_top (u := .int (nI ((ks.take j).count (ks.getD j 0)))) (congrArg Value.int (h24.2 _ (by omega))) ?_
        refine mm_iconst (v := nI 1) dX3_arrange_40 (by decide) ?_
        refine mn_iadd dX3_arrange_41 ?_
        refine cm_iast (i := (ks.getD (j) 0) + (1)) dX3_arrange_42 ha hf (by decide) rfl (by omega) (by decide) (fun h1 ha hf => ?_)
        refine mn_iinc (m := 1) (L' := [(1, .int (nI (j + 1))), (0, .ref (o + 20))]) dX3_arrange_43 (by decide) 0 rfl (by decide) rfl ?_
        refine mm_goto (tgt := 18) dX3_arrange_46 (by decide) ?_
        refine mn_sub [0, 1] rfl ?_
        refine ih (j + 1) _ _ (by omega) (fun b i n1 n2 => (xu_a n2).trans (hfr b i n1 n2)) ⟨(xu_i (by omega)).trans h24.1, fun t ht => ?_⟩ ha hf
        by_cases e : t = ks.getD j 0
        · subst e; rw [tc.1]; exact xu_s
        · rw [tc.2 t e]; exact (xu_i (by omega)).trans (h24.2 t ht)
  have hf := cm_fr.rf (o := o) (h := h)
  refine mm_aload_n dX3_arrange_0 rfl 0 rfl ?_
  refine cm_callVr (As := []) (rest := []) (d2 := 0) dX3_arrange_1 ha (by decide) rfl zz_clX3 zc_X3_29 zs_X3_isMany rfl rfl (Nat.le_of_ble_eq_true rfl) (Nat.le_of_ble_eq_true rfl) (by decide) (cf_isMany ha h4 (by omega)) ?_
  refine mn_ifB_eq (tgt := 8) dX3_arrange_4 (by decide) (fun c4 => ?_) (fun c4 => ?_)
  · refine mm_aload_n dX3_arrange_8 rfl 0 rfl ?_
    refine cm_getR (b := 24) dX3_arrange_9 ha zr_X3_22 (by decide) rfl rfl rfl ?_
    refine mm_iconst (v := nI 0) dX3_arrange_12 (by decide) ?_
    refine rm_callS (As := [.ref (o + 24), .int (nI (0))]) (rest := []) (d2 := 0) dX3_arrange_13 zc_X3_46 rfl rfl (Nat.le_of_ble_eq_true rfl) (Nat.le_of_ble_eq_true rfl) (by decide) (cj_fill ha (b := 24) (n := 129) ⟨by decide, rfl⟩ (by decide)) (fun r h1 hq => ?_)
    obtain ⟨rfl, ha, hf'⟩ := hq
    have hf := hf.tr hf'
    refine mm_iconst (v := nI 0) dX3_arrange_16 (by decide) ?_
    refine mm_istore_n (L' := [(1, .int (nI (0))), (0, .ref (o + 20))]) dX3_arrange_17 rfl (by decide) rfl ?_
    refine mn_sub [0, 1] rfl ?_
    refine l1 ks.length 0 _ _ (by omega) (fun b i n1 n2 => fxa_a n2) ⟨fxa_i (by omega), fun t ht => ?_⟩ ha hf
    rw [List.take_zero, List.count_nil]; exact fxa_i (by omega)
  · exact absurd (of_decide_eq_true (by simpa using c4)) (by omega)
set_option maxRecDepth 100000 in
set_option maxHeartbeats 4000000 in
theorem cf_choiceOf {l : Launch} {D : va_G} {aa : Nat → ClassId} {b0 : Nat} {h : mm_H} {o : Nat} {X : Nat → Nat → Int32} {Y : Nat → Nat → Int64} {rl : Option Nat} {R : List gL} {r st j : Nat} {x : gL} (ha : cm_at o X Y rl h) (hfo : fo2 X Y R) (hr : r < R.length) (hst : st < 48) (hor : X 23 r = nI j) (hx : R[j]? = some x) (hlk : lk_ x) : mm_V (zz_K l D aa b0) 0 yX3_choiceOf cX3_choiceOf 5 (some .int) 0 [(0, .ref (o + 20)), (1, .int (nI (r))), (2, .int (nI (st)))] [] h 0 0 (fun rv h' => h' = h ∧ rv = some (.int (nI (if st < x.1.length then x.1.getD st 0 else 0)))) := by
  have hR1 := hfo.2.1
  have hj := get_lt hx
  have hwl := wd_lt (v := st / 12) hlk.2.1 12
  have hw := wd_get (v := st / 12) hlk.2.1 12 (st % 12) (by omega)
  rw [show st / 12 * 12 + st % 12 = st from by omega] at hw
  refine mm_iload_n dX3_choiceOf_0 rfl 1 rfl ?_
  refine mn_if_lt (tgt := 29) dX3_choiceOf_1 (by decide) (by omega) ?_
  refine mm_iload_n dX3_choiceOf_4 rfl 1 rfl ?_
  refine mm_aload_n dX3_choiceOf_5 rfl 0 rfl ?_
  refine cm_getI dX3_choiceOf_6 ha zr_X3_25 (by decide) rfl rfl ?_
  refine mn_top (u := .int (nI (R.length))) (congrArg Value.int ((hfo.1))) ?_
  refine mn_icmp_ge (tgt := 29) dX3_choiceOf_9 (by decide) (by omega) (by omega) (fun c9 => ?_) (fun c9 => ?_)
  · omega
  · refine mm_iload_n dX3_choiceOf_12 rfl 1 rfl ?_
    refine mm_sipush (v := nI 1000) dX3_choiceOf_13 (by decide) ?_
    refine mn_icmp_ge (tgt := 29) dX3_choiceOf_16 (by decide) (by omega) (by omega) (fun c16 => ?_) (fun c16 => ?_)
    · omega
    · refine mm_iload_n dX3_choiceOf_19 rfl 2 rfl ?_
      refine mn_if_lt (tgt := 29) dX3_choiceOf_20 (by decide) (by omega) ?_
      refine mm_iload_n dX3_choiceOf_23 rfl 2 rfl ?_
      refine mm_bipush (v := nI 48) dX3_choiceOf_24 (by decide) ?_
      refine mn_icmp_lt (tgt := 31) dX3_choiceOf_26 (by decide) (by omega) (by omega) (fun c26 => ?_) (fun c26 => ?_)
      · refine mm_aload_n dX3_choiceOf_31 rfl 0 rfl ?_
        refine cm_getR (b := 21) dX3_choiceOf_32 ha zr_X3_11 (by decide) rfl rfl rfl ?_
        refine mm_aload_n dX3_choiceOf_35 rfl 0 rfl ?_
        refine cm_getR (b := 23) dX3_choiceOf_36 ha zr_X3_19 (by decide) rfl rfl rfl ?_
        refine mm_iload_n dX3_choiceOf_39 rfl 1 rfl ?_
        refine cm_iald (i := r) dX3_choiceOf_40 ha (by decide) rfl (by omega) (by decide) ?_
        refine mn_top (u := .int (nI (j))) (congrArg Value.int (hor)) ?_
        refine mm_iconst (v := nI 4) dX3_choiceOf_41 (by decide) ?_
        refine mn_imul dX3_choiceOf_42 ?_
        refine mm_iload_n dX3_choiceOf_43 rfl 2 rfl ?_
        refine mm_bipush (v := nI 12) dX3_choiceOf_44 (by decide) ?_
        refine mn_idiv dX3_choiceOf_46 (by omega) (by omega) (by omega) ?_
        refine mn_iadd dX3_choiceOf_47 ?_
        refine cm_lald (i := ((j) * (4)) + ((st) / (12))) dX3_choiceOf_48 ha (by decide) rfl (by omega) (by decide) ?_
        refine mn_top (u := .long (lN (wd_ x.1 (st / 12) 12))) (congrArg Value.long (by show Y 21 (j * 4 + st / 12) = _; exact (hfo.2.2 j x hx).2 _ (by omega))) ?_
        refine mm_lstore_n (L' := [(3, .long (lN (wd_ x.1 (st / 12) 12))), (0, .ref (o + 20)), (1, .int (nI (r))), (2, .int (nI (st)))]) dX3_choiceOf_49 rfl (by decide) rfl ?_
        refine mm_lload_n dX3_choiceOf_50 rfl 0 rfl ?_
        refine mm_iload_n dX3_choiceOf_51 rfl 3 rfl ?_
        refine mm_bipush (v := nI 12) dX3_choiceOf_52 (by decide) ?_
        refine mn_irem dX3_choiceOf_54 (by omega) (by omega) (by omega) ?_
        refine mm_iconst (v := nI 5) dX3_choiceOf_55 (by decide) ?_
        refine mn_imul dX3_choiceOf_56 ?_
        refine mn_lshr dX3_choiceOf_57 (Nat.lt_of_lt_of_le hwl (by decide)) (by omega) ?_
        refine mn_l2i dX3_choiceOf_58 ?_
        refine mm_bipush (v := nI 31) dX3_choiceOf_59 (by decide) ?_
        refine mn_iand dX3_choiceOf_61 ?_
        exact mm_iret dX3_choiceOf_62 rfl (⟨rfl, by rw [hw]⟩)
      · omega
