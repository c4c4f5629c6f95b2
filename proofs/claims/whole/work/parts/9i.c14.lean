/-! what is found is kept -/
theorem mi_n {a b : Nat} (ha : a < 2 ^ 31) (hb : b < 2 ^ 31) : (if nI b < nI a then nI b else nI a) = nI (if b < a then b else a) := by
  have e : nI b < nI a ↔ b < a := by
    rw [Int32.lt_iff_toInt_lt, nI_toInt ha, nI_toInt hb]
    omega
  by_cases h : b < a
  · rw [if_pos (e.mpr h), if_pos h]
  · rw [if_neg (fun z => h (e.mp z)), if_neg h]
set_option maxRecDepth 100000 in
set_option maxHeartbeats 4000000 in
theorem cf_pack {l : Launch} {D : va_G} {aa : Nat → ClassId} {b0 : Nat} {h : mm_H} {o : Nat} {X : Nat → Nat → Int32} {Y : Nat → Nat → Int64} {rl : Option Nat} {n : Nat} {cs : List Nat} (ha : cm_at o X Y rl h) (hn : X 20 4 = nI n) (hn1 : n < 1000) (hl : cs.length ≤ 48) (hcs : ∀ i, i < cs.length → X 30 i = nI (cs.getD i 0)) (h32 : ∀ i, i < cs.length → cs.getD i 0 < 32) : mm_V (zz_K l D aa b0) 0 yX3_pack cX3_pack 7 none 0 [(0, .ref (o + 20)), (1, .ref (o + 30)), (2, .int (nI (cs.length)))] [] h 0 0 (fun rv h' => rv = none ∧ ∃ Y' : Nat → Nat → Int64, cm_at o X Y' rl h' ∧ cm_fr o h h' ∧ (∀ v, v < 4 → Y' 21 (n * 4 + v) = lN (wd_ cs v 12)) ∧ (∀ b i, ¬ (b = 21 ∧ n * 4 ≤ i ∧ i < n * 4 + 4) → Y' b i = Y b i)) := by
  have lp : ∀ (m v : Nat) (Y1 : Nat → Nat → Int64) (h1 : mm_H), v + m = 4 → (∀ u, u < v → Y1 21 (n * 4 + u) = lN (wd_ cs u 12)) → (∀ b i, ¬ (b = 21 ∧ n * 4 ≤ i ∧ i < n * 4 + 4) → Y1 b i = Y b i) → cm_at o X Y1 rl h1 → cm_fr o h h1 → mm_V (zz_K l D aa b0) 0 yX3_pack cX3_pack 7 none 2 [(3, .int (nI (v))), (0, .ref (o + 20)), (1, .ref (o + 30)), (2, .int (nI (cs.length)))] [] h1 0 0 (fun rv h' => rv = none ∧ ∃ Y' : Nat → Nat → Int64, cm_at o X Y' rl h' ∧ cm_fr o h h' ∧ (∀ v, v < 4 → Y' 21 (n * 4 + v) = lN (wd_ cs v 12)) ∧ (∀ b i, ¬ (b = 21 ∧ n * 4 ≤ i ∧ i < n * 4 + 4) → Y' b i = Y b i)) := by
    intro m
    induction m with
    | zero =>
      intro v Y1 h1 hv hy hfr ha hf
      refine mm_iload_n dX3_pack_2 rfl 0 rfl ?_
      refine mm_iconst (v := nI 4) dX3_pack_3 (by decide) ?_
      refine mn_icmp_ge (tgt := 78) dX3_pack_4 (by decide) (by omega) (by omega) (fun c4 => ?_) (fun c4 => ?_)
      · exact mm_vret dX3_pack_78 rfl (⟨rfl, Y1, ha, hf, fun u hu => hy u (by omega), hfr⟩)
      · omega
    | succ m ih =>
      intro v Y1 h1 hv hy hfr ha hf
      refine mm_iload_n dX3_pack_2 rfl 0 rfl ?_
      refine mm_iconst (v := nI 4) dX3_pack_3 (by decide) ?_
      refine mn_icmp_ge (tgt := 78) dX3_pack_4 (by decide) (by omega) (by omega) (fun c4 => ?_) (fun c4 => ?_)
      · omega
      · have en : ∀ j : Nat, mm_V (zz_K l D aa b0) 0 yX3_pack cX3_pack 7 none 57 [(6, .int (nI (j))), (4, .long (lN (wd_ cs v 12))), (3, .int (nI (v))), (0, .ref (o + 20)), (1, .ref (o + 30)), (2, .int (nI (cs.length)))] [] h1 0 0 (fun rv h' => rv = none ∧ ∃ Y' : Nat → Nat → Int64, cm_at o X Y' rl h' ∧ cm_fr o h h' ∧ (∀ v, v < 4 → Y' 21 (n * 4 + v) = lN (wd_ cs v 12)) ∧ (∀ b i, ¬ (b = 21 ∧ n * 4 ≤ i ∧ i < n * 4 + 4) → Y' b i = Y b i)) := by
          intro j
          refine mm_aload_n dX3_pack_57 rfl 3 rfl ?_
          refine cm_getR (b := 21) dX3_pack_58 ha zr_X3_11 (by decide) rfl rfl rfl ?_
          refine mm_aload_n dX3_pack_61 rfl 3 rfl ?_
          refine cm_getI dX3_pack_62 ha zr_X3_25 (by decide) rfl rfl ?_
          refine mn_top (u := .int (nI (n))) (congrArg Value.int ((hn))) ?_
          refine mm_iconst (v := nI 4) dX3_pack_65 (by decide) ?_
          refine mn_imul dX3_pack_66 ?_
          refine mm_iload_n dX3_pack_67 rfl 2 rfl ?_
          refine mn_iadd dX3_pack_68 ?_
          refine mm_lload dX3_pack_69 1 rfl ?_
          refine cm_jast (i := n * 4 + v) dX3_pack_71 ha hf (by decide) rfl (by omega) (by decide) (fun h2 ha hf => ?_)
          refine mn_iinc (m := 1) (L' := [(3, .int (nI (v + 1))), (6, .int (nI (j))), (4, .long (lN (wd_ cs v 12))), (0, .ref (o + 20)), (1, .ref (o + 30)), (2, .int (nI (cs.length)))]) dX3_pack_72 (by decide) 2 rfl (by decide) rfl ?_
          refine mm_goto (tgt := 2) dX3_pack_75 (by decide) ?_
          refine mn_sub [0, 3, 4, 5] rfl ?_
          refine ih (v + 1) _ h2 (by omega) (fun u hu => ?_) (fun b i hb => (xu_z (by omega)).trans (hfr b i hb)) ha hf
          by_cases e : u = v
          · subst e; exact xu_s
          · exact (xu_i (by omega)).trans (hy u (by omega))
        have lq : ∀ k j : Nat, j + k = 12 → mm_V (zz_K l D aa b0) 0 yX3_pack cX3_pack 7 none 13 [(6, .int (nI (j))), (4, .long (lN (wd_ cs v j))), (3, .int (nI (v))), (0, .ref (o + 20)), (1, .ref (o + 30)), (2, .int (nI (cs.length)))] [] h1 0 0 (fun rv h' => rv = none ∧ ∃ Y' : Nat → Nat → Int64, cm_at o X Y' rl h' ∧ cm_fr o h h' ∧ (∀ v, v < 4 → Y' 21 (n * 4 + v) = lN (wd_ cs v 12)) ∧ (∀ b i, ¬ (b = 21 ∧ n * 4 ≤ i ∧ i < n * 4 + 4) → Y' b i = Y b i)) := by
          intro k
          induction k with
          | zero =>
            intro j hj
            refine mm_iload dX3_pack_13 0 rfl ?_
            refine mm_bipush (v := nI 12) dX3_pack_15 (by decide) ?_
            refine mn_icmp_ge (tgt := 57) dX3_pack_17 (by decide) (by omega) (by omega) (fun c17 => ?_) (fun c17 => ?_)
            · have e : j = 12 := by omega
              subst e
              exact en 12
            · omega
          | succ k ih2 =>
            intro j hj
            refine mm_iload dX3_pack_13 0 rfl ?_
            refine mm_bipush (v := nI 12) dX3_pack_15 (by decide) ?_
            refine mn_icmp_ge (tgt := 57) dX3_pack_17 (by decide) (by omega) (by omega) (fun c17 => ?_) (fun c17 => ?_)
            · omega
            · refine mm_iload_n dX3_pack_20 rfl 2 rfl ?_
              refine mm_bipush (v := nI 12) dX3_pack_21 (by decide) ?_
              refine mn_imul dX3_pack_23 ?_
              refine mm_iload dX3_pack_24 0 rfl ?_
              refine mn_iadd dX3_pack_26 ?_
              refine mm_iload_n dX3_pack_27 rfl 5 rfl ?_
              refine mn_icmp_ge (tgt := 57) dX3_pack_28 (by decide) (by omega) (by omega) (fun c28 => ?_) (fun c28 => ?_)
              · have e : wd_ cs v (j + (12 - j)) = wd_ cs v j := wd_end (by omega) _
                rw [show j + (12 - j) = 12 from by omega] at e
                rw [← e]
                exact en j
              · have h32j := h32 (v * 12 + j) (by omega)
                refine mm_lload dX3_pack_31 1 rfl ?_
                refine mm_aload_n dX3_pack_33 rfl 4 rfl ?_
                refine mm_iload_n dX3_pack_34 rfl 2 rfl ?_
                refine mm_bipush (v := nI 12) dX3_pack_35 (by decide) ?_
                refine mn_imul dX3_pack_37 ?_
                refine mm_iload dX3_pack_38 0 rfl ?_
                refine mn_iadd dX3_pack_40 ?_
                refine cm_iald (i := ((v) * (12)) + (j)) dX3_pack_41 ha (by decide) rfl (by omega) (by decide) ?_
                refine mn_top (u := .int (nI (cs.getD (((v) * (12)) + (j)) 0))) (congrArg Value.int (hcs (((v) * (12)) + (j)) (by omega))) ?_
                refine mn_i2l dX3_pack_42 (by omega) ?_
                refine mm_iload dX3_pack_43 0 rfl ?_
                refine mm_iconst (v := nI 5) dX3_pack_45 (by decide) ?_
                refine mn_imul dX3_pack_46 ?_
                refine mn_lshl dX3_pack_47 (by omega) ?_
                refine mn_lor dX3_pack_48 ?_
                refine mn_top (u := .long (lN (wd_ cs v (j + 1)))) (congrArg Value.long (by show _ = lN (if v * 12 + j < cs.length then _ else _); rw [if_pos (by omega)])) ?_
                refine mm_lstore (L' := [(4, .long (lN (wd_ cs v (j + 1)))), (6, .int (nI (j))), (3, .int (nI (v))), (0, .ref (o + 20)), (1, .ref (o + 30)), (2, .int (nI (cs.length)))]) dX3_pack_49 (by decide) rfl ?_
                refine mn_iinc (m := 1) (L' := [(6, .int (nI (j + 1))), (4, .long (lN (wd_ cs v (j + 1)))), (3, .int (nI (v))), (0, .ref (o + 20)), (1, .ref (o + 30)), (2, .int (nI (cs.length)))]) dX3_pack_51 (by decide) 1 rfl (by decide) rfl ?_
                refine mm_goto (tgt := 13) dX3_pack_54 (by decide) ?_
                refine mn_sub [0, 1, 2, 3, 4, 5] rfl ?_
                exact ih2 (j + 1) (by omega)
        refine mm_lconst (v := lN 0) dX3_pack_7 (by decide) ?_
        refine mm_lstore (L' := [(4, .long (lN (0))), (3, .int (nI (v))), (0, .ref (o + 20)), (1, .ref (o + 30)), (2, .int (nI (cs.length)))]) dX3_pack_8 (by decide) rfl ?_
        refine mm_iconst (v := nI 0) dX3_pack_10 (by decide) ?_
        refine mm_istore (L' := [(6, .int (nI (0))), (4, .long (lN (0))), (3, .int (nI (v))), (0, .ref (o + 20)), (1, .ref (o + 30)), (2, .int (nI (cs.length)))]) dX3_pack_11 (by decide) rfl ?_
        refine mn_sub [0, 1, 2, 3, 4, 5] rfl ?_
        exact lq 12 0 (by omega)
  refine mm_iconst (v := nI 0) dX3_pack_0 (by decide) ?_
  refine mm_istore_n (L' := [(3, .int (nI (0))), (0, .ref (o + 20)), (1, .ref (o + 30)), (2, .int (nI (cs.length)))]) dX3_pack_1 rfl (by decide) rfl ?_
  exact lp 4 0 Y h (by omega) (fun u hu => by omega) (fun _ _ _ => rfl) ha cm_fr.rf
theorem fo2_s {X : Nat → Nat → Int32} {Y Y' : Nat → Nat → Int64} {R : List gL} {x : gL} {n i : Nat} (h : fo2 X Y (R ++ List.replicate i x)) (hl : (R ++ List.replicate i x).length = n) (hw : ∀ v, v < 4 → Y' 21 (n * 4 + v) = lN (wd_ x.1 v 12)) (hf : ∀ b j, ¬ (b = 21 ∧ n * 4 ≤ j ∧ j < n * 4 + 4) → Y' b j = Y b j) (hn : n < 1000) : fo2 (xu (xu X 22 n (nI (sn_ x.2.1.1))) 20 4 (nI (n + 1))) Y' (R ++ List.replicate (i + 1) x) := by
  have e : R ++ List.replicate (i + 1) x = (R ++ List.replicate i x) ++ [x] := by rw [List.replicate_succ', List.append_assoc]
  rw [e]
  generalize R ++ List.replicate i x = S at h hl
  refine ⟨?_, ?_, fun j y hy => ?_⟩
  · rw [List.length_append, hl]; exact xu_s
  · rw [List.length_append, hl]; show n + 1 ≤ 1000; omega
  · rcases get_app hy with h1 | ⟨h1, h2⟩
    · have h3 := h.2.2 j y h1
      have h4 := get_lt h1
      refine ⟨(xu_a (by decide)).trans ((xu_i (by omega)).trans h3.1), fun v hv => (hf _ _ (by omega)).trans (h3.2 v hv)⟩
    · subst h2
      rw [h1, hl]
      exact ⟨(xu_a (by decide)).trans xu_s, hw⟩
set_option maxRecDepth 100000 in
set_option maxHeartbeats 4000000 in
theorem cf_add {l : Launch} {D : va_G} {aa : Nat → ClassId} {b0 : Nat} {h : mm_H} {o : Nat} {X : Nat → Nat → Int32} {Y : Nat → Nat → Int64} {rl : Option Nat} {R : List gL} {x : gL} {cp : Nat} (ha : cm_at o X Y rl h) (hfo : fo2 X Y R) (hlk : lk_ x) (hcs : ∀ i, i < x.1.length → X 30 i = nI (x.1.getD i 0)) (hcp : cp < 2 ^ 31) : mm_V (zz_K l D aa b0) 1 yX3_add cX3_add 6 none 0 [(0, .ref (o + 20)), (1, .ref (o + 30)), (2, .int (nI (x.1.length))), (3, .int (nI (sn_ x.2.1.1))), (4, .int (nI (cp)))] [] h 0 0 (fun rv h' => rv = none ∧ ∃ (X' : Nat → Nat → Int32) (Y' : Nat → Nat → Int64), cm_at o X' Y' rl h' ∧ cm_fr o h h' ∧ (∀ b i, ¬ (b = 20 ∧ i = 4) → b ≠ 22 → X' b i = X b i) ∧ (∀ b i, b ≠ 21 → Y' b i = Y b i) ∧ (if R.length + cp ≤ 1000 then fo2 X' Y' (R ++ List.replicate cp x) else X' 20 4 = nI 1001)) := by
  have hlk1 := hlk.1
  have hlk2 := hlk.2.2
  have en : ∀ (i : Nat) (X1 : Nat → Nat → Int32) (Y1 : Nat → Nat → Int64) (h1 : mm_H), i < 2 ^ 31 → ¬ R.length + cp ≤ 1000 → X1 20 4 = nI 1001 → (∀ b i, ¬ (b = 20 ∧ i = 4) → b ≠ 22 → X1 b i = X b i) ∧ (∀ b i, b ≠ 21 → Y1 b i = Y b i) → cm_at o X1 Y1 rl h1 → cm_fr o h h1 → mm_V (zz_K l D aa b0) 1 yX3_add cX3_add 6 none 3 [(5, .int (nI (i))), (0, .ref (o + 20)), (1, .ref (o + 30)), (2, .int (nI (x.1.length))), (3, .int (nI (sn_ x.2.1.1))), (4, .int (nI (cp)))] [] h1 0 0 (fun rv h' => rv = none ∧ ∃ (X' : Nat → Nat → Int32) (Y' : Nat → Nat → Int64), cm_at o X' Y' rl h' ∧ cm_fr o h h' ∧ (∀ b i, ¬ (b = 20 ∧ i = 4) → b ≠ 22 → X' b i = X b i) ∧ (∀ b i, b ≠ 21 → Y' b i = Y b i) ∧ (if R.length + cp ≤ 1000 then fo2 X' Y' (R ++ List.replicate cp x) else X' 20 4 = nI 1001)) := by
    intro i X1 Y1 h1 hi hno h4 hfx ha hf
    refine mm_iload dX3_add_3 0 rfl ?_
    refine mm_iload dX3_add_5 5 rfl ?_
    refine mn_icmp_ge (tgt := 80) dX3_add_7 (by decide) (by omega) (by omega) (fun c7 => ?_) (fun c7 => ?_)
    · exact mm_vret dX3_add_80 rfl (⟨rfl, X1, Y1, ha, hf, hfx.1, hfx.2, by rw [if_neg hno]; exact h4⟩)
    · refine mm_aload_n dX3_add_10 rfl 1 rfl ?_
      refine cm_callVr (As := []) (rest := []) (d2 := 0) dX3_add_11 ha (by decide) rfl zz_clX3 zc_X3_29 zs_X3_isMany rfl rfl (Nat.le_of_ble_eq_true rfl) (Nat.le_of_ble_eq_true rfl) (by decide) (cf_isMany ha h4 (by decide)) ?_
      refine mn_ifB_ne (tgt := 80) dX3_add_14 (by decide) (fun c14 => ?_) (fun c14 => ?_)
      · exact mm_vret dX3_add_80 rfl (⟨rfl, X1, Y1, ha, hf, hfx.1, hfx.2, by rw [if_neg hno]; exact h4⟩)
      · exact absurd c14 (by decide)
  have lp : ∀ (m i : Nat) (X1 : Nat → Nat → Int32) (Y1 : Nat → Nat → Int64) (h1 : mm_H), i + m = cp → R.length + i ≤ 1000 → fo2 X1 Y1 (R ++ List.replicate i x) → (∀ b i, ¬ (b = 20 ∧ i = 4) → b ≠ 22 → X1 b i = X b i) ∧ (∀ b i, b ≠ 21 → Y1 b i = Y b i) → cm_at o X1 Y1 rl h1 → cm_fr o h h1 → mm_V (zz_K l D aa b0) 1 yX3_add cX3_add 6 none 3 [(5, .int (nI (i))), (0, .ref (o + 20)), (1, .ref (o + 30)), (2, .int (nI (x.1.length))), (3, .int (nI (sn_ x.2.1.1))), (4, .int (nI (cp)))] [] h1 0 0 (fun rv h' => rv = none ∧ ∃ (X' : Nat → Nat → Int32) (Y' : Nat → Nat → Int64), cm_at o X' Y' rl h' ∧ cm_fr o h h' ∧ (∀ b i, ¬ (b = 20 ∧ i = 4) → b ≠ 22 → X' b i = X b i) ∧ (∀ b i, b ≠ 21 → Y' b i = Y b i) ∧ (if R.length + cp ≤ 1000 then fo2 X' Y' (R ++ List.replicate cp x) else X' 20 4 = nI 1001)) := by
    intro m
    induction m with
    | zero =>
      intro i X1 Y1 h1 him hle hfo hfx ha hf
      refine mm_iload dX3_add_3 0 rfl ?_
      refine mm_iload dX3_add_5 5 rfl ?_
      refine mn_icmp_ge (tgt := 80) dX3_add_7 (by decide) (by omega) (by omega) (fun c7 => ?_) (fun c7 => ?_)
      · have e : i = cp := by omega
        subst e
        exact mm_vret dX3_add_80 rfl (⟨rfl, X1, Y1, ha, hf, hfx.1, hfx.2, by rw [if_pos hle]; exact hfo⟩)
      · omega
    | succ m ih =>
      intro i X1 Y1 h1 him hle hfo hfx ha hf
      refine mm_iload dX3_add_3 0 rfl ?_
      refine mm_iload dX3_add_5 5 rfl ?_
      refine mn_icmp_ge (tgt := 80) dX3_add_7 (by decide) (by omega) (by omega) (fun c7 => ?_) (fun c7 => ?_)
      · omega
      · have hl : (R ++ List.replicate i x).length = R.length + i := by rw [List.length_append, List.length_replicate]
        have h4 := hfo.1
        rw [hl] at h4
        refine mm_aload_n dX3_add_10 rfl 1 rfl ?_
        refine cm_callVr (As := []) (rest := []) (d2 := 0) dX3_add_11 ha (by decide) rfl zz_clX3 zc_X3_29 zs_X3_isMany rfl rfl (Nat.le_of_ble_eq_true rfl) (Nat.le_of_ble_eq_true rfl) (by decide) (cf_isMany ha h4 (by omega)) ?_
        refine mn_ifB_ne (tgt := 80) dX3_add_14 (by decide) (fun c14 => ?_) (fun c14 => ?_)
        · exact absurd (of_decide_eq_true c14) (by omega)
        · refine mm_aload_n dX3_add_17 rfl 1 rfl ?_
          refine cm_getI dX3_add_18 ha zr_X3_25 (by decide) rfl rfl ?_
          refine mn_top (u := .int (nI (R.length + i))) (congrArg Value.int ((h4))) ?_
          refine mn_if_lt (tgt := 64) dX3_add_21 (by decide) (by omega) ?_
          refine mm_aload_n dX3_add_24 rfl 1 rfl ?_
          refine cm_getI dX3_add_25 ha zr_X3_25 (by decide) rfl rfl ?_
          refine mn_top (u := .int (nI (R.length + i))) (congrArg Value.int ((h4))) ?_
          refine mm_sipush (v := nI 1000) dX3_add_28 (by decide) ?_
          refine mn_icmp_ge (tgt := 64) dX3_add_31 (by decide) (by omega) (by omega) (fun c31 => ?_) (fun c31 => ?_)
          · refine mm_aload_n dX3_add_64 rfl 1 rfl ?_
            refine mm_dup dX3_add_65 rfl ?_
            refine cm_getI dX3_add_66 ha zr_X3_25 (by decide) rfl rfl ?_
            refine mn_top (u := .int (nI (R.length + i))) (congrArg Value.int ((h4))) ?_
            refine mm_iconst (v := nI 1) dX3_add_69 (by decide) ?_
            refine mn_iadd dX3_add_70 ?_
            refine cm_putI dX3_add_71 ha hf zp_X3_25 (by decide) rfl rfl rfl rfl (fun h1 ha hf => ?_)
            refine mn_iinc (m := 1) (L' := [(5, .int (nI (i + 1))), (0, .ref (o + 20)), (1, .ref (o + 30)), (2, .int (nI (x.1.length))), (3, .int (nI (sn_ x.2.1.1))), (4, .int (nI (cp)))]) dX3_add_74 (by decide) 0 rfl (by decide) rfl ?_
            refine mm_goto (tgt := 3) dX3_add_77 (by decide) ?_
            refine mn_sub [0, 1, 2, 3, 4, 5] rfl ?_
            exact en (i + 1) _ _ _ (by omega) (by omega) (by rw [xu_s, show R.length + i = 1000 from by omega]) ⟨fun b j n1 n2 => (xu_z n1).trans (hfx.1 b j n1 n2), hfx.2⟩ ha hf
          · refine mm_aload_n dX3_add_34 rfl 1 rfl ?_
            refine cm_getR (b := 22) dX3_add_35 ha zr_X3_15 (by decide) rfl rfl rfl ?_
            refine mm_aload_n dX3_add_38 rfl 1 rfl ?_
            refine cm_getI dX3_add_39 ha zr_X3_25 (by decide) rfl rfl ?_
            refine mn_top (u := .int (nI (R.length + i))) (congrArg Value.int ((h4))) ?_
            refine mm_iconst (v := nI 0) dX3_add_42 (by decide) ?_
            refine mm_iload_n dX3_add_43 rfl 4 rfl ?_
            refine mm_bipush (v := nI 127) dX3_add_44 (by decide) ?_
            refine mm_mmin dX3_add_46 zc_X3_33 (Nat.le_of_ble_eq_true rfl) ?_
            refine mn_top (u := .int (nI (sn_ x.2.1.1))) (congrArg Value.int ((mi_n (by omega) (by omega)).trans (by rw [if_neg (by omega)]))) ?_
            refine mm_mmax dX3_add_49 zc_X3_39 (Nat.le_of_ble_eq_true rfl) ?_
            refine mn_top (u := .int (nI (sn_ x.2.1.1))) (congrArg Value.int ((mx_n (by omega) (by omega)).trans (by congr 1; split <;> omega))) ?_
            refine cm_iast (i := R.length + i) dX3_add_52 ha hf (by decide) rfl (by omega) (by decide) (fun h1 ha hf => ?_)
            refine mm_aload_n dX3_add_53 rfl 1 rfl ?_
            refine mm_aload_n dX3_add_54 rfl 2 rfl ?_
            refine mm_iload_n dX3_add_55 rfl 3 rfl ?_
            refine mm_aload_n dX3_add_56 rfl 2 rfl ?_
            refine cm_alenI dX3_add_57 ha (by decide) rfl ?_
            refine mm_mmin dX3_add_58 zc_X3_33 (Nat.le_of_ble_eq_true rfl) ?_
            refine mn_top (u := .int (nI (x.1.length))) (congrArg Value.int ((mi_n (by omega) (by omega)).trans (by rw [if_neg (by omega)]))) ?_
            refine cm_callV (As := [.ref (o + 30), .int (nI (x.1.length))]) (rest := []) (d2 := 0) dX3_add_61 ha (by decide) rfl zz_clX3 zc_X3_42 zs_X3_pack rfl rfl (Nat.le_of_ble_eq_true rfl) (Nat.le_of_ble_eq_true rfl) (by decide) (cf_pack ha ((xu_a (by decide)).trans h4) (by omega) hlk.1 (fun j hj => (xu_a (by decide)).trans ((hfx.1 30 j (by omega) (by decide)).trans (hcs j hj))) hlk.2.1) (fun r h1 hq => ?_)
            obtain ⟨rfl, Y2, ha, hf', hw2, hfy⟩ := hq
            have hf := hf.tr hf'
            refine mm_aload_n dX3_add_64 rfl 1 rfl ?_
            refine mm_dup dX3_add_65 rfl ?_
            refine cm_getI dX3_add_66 ha zr_X3_25 (by decide) rfl rfl ?_
            refine mn_top (u := .int (nI (R.length + i))) (congrArg Value.int (Eq.trans (xu_a (by decide)) ((h4)))) ?_
            refine mm_iconst (v := nI 1) dX3_add_69 (by decide) ?_
            refine mn_iadd dX3_add_70 ?_
            refine cm_putI dX3_add_71 ha hf zp_X3_25 (by decide) rfl rfl rfl rfl (fun h1 ha hf => ?_)
            refine mn_iinc (m := 1) (L' := [(5, .int (nI (i + 1))), (0, .ref (o + 20)), (1, .ref (o + 30)), (2, .int (nI (x.1.length))), (3, .int (nI (sn_ x.2.1.1))), (4, .int (nI (cp)))]) dX3_add_74 (by decide) 0 rfl (by decide) rfl ?_
            refine mm_goto (tgt := 3) dX3_add_77 (by decide) ?_
            refine mn_sub [0, 1, 2, 3, 4, 5] rfl ?_
            refine ih (i + 1) _ _ _ (by omega) (by omega) (fo2_s hfo hl hw2 hfy (by omega)) ⟨fun b j n1 n2 => (xu_z n1).trans ((xu_a n2).trans (hfx.1 b j n1 n2)), fun b j n1 => (hfy b j (by omega)).trans (hfx.2 b j n1)⟩ ha hf
  refine mm_iconst (v := nI 0) dX3_add_0 (by decide) ?_
  refine mm_istore (L' := [(5, .int (nI (0))), (0, .ref (o + 20)), (1, .ref (o + 30)), (2, .int (nI (x.1.length))), (3, .int (nI (sn_ x.2.1.1))), (4, .int (nI (cp)))]) dX3_add_1 (by decide) rfl ?_
  exact lp cp 0 X Y h (by omega) hfo.2.1 (by rw [List.replicate_zero, List.append_nil]; exact hfo) ⟨fun _ _ _ _ => rfl, fun _ _ _ => rfl⟩ ha cm_fr.rf
