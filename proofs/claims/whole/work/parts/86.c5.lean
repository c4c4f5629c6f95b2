/-! Spans: clearing, items -/
set_option maxRecDepth 100000 in
set_option maxHeartbeats 4000000 in
theorem cj_fill {l : Launch} {D : va_G} {aa : Nat → ClassId} {b0 : Nat} {h : mm_H} {o : Nat} {X : Nat → Nat → Int32} {Y : Nat → Nat → Int64} {rl : Option Nat} {b n : Nat} {v : Int32} (ha : cm_at o X Y rl h) (hA : AA b n) (hn31 : n < 2 ^ 31) : mm_V (zz_K l D aa b0) 0 yJ7_fill_53178 cJ7_fill_53178 4 none 0 [(0, .ref (o + b)), (1, .int (v))] [] h 0 0 (fun rv h' => rv = none ∧ cm_at o (fxa X b n v) Y rl h' ∧ cm_fr o h h') := by
  have lp : ∀ (m i : Nat) (h1 : mm_H), i + m = n → cm_at o (fxa X b i v) Y rl h1 → cm_fr o h h1 → mm_V (zz_K l D aa b0) 0 yJ7_fill_53178 cJ7_fill_53178 4 none 5 [(3, .int (nI (n))), (2, .int (nI (i))), (0, .ref (o + b)), (1, .int (v))] [] h1 0 0 (fun rv h' => rv = none ∧ cm_at o (fxa X b n v) Y rl h' ∧ cm_fr o h h') := by
    intro m
    induction m with
    | zero =>
      intro i h1 hn ha hf
      refine mm_iload_n dJ7_fill_53178_5 rfl 1 rfl ?_
      refine mm_iload_n dJ7_fill_53178_6 rfl 0 rfl ?_
      refine mn_icmp_ge (tgt := 20) dJ7_fill_53178_7 (by decide) (by omega) (by omega) (fun c7 => ?_) (fun c7 => ?_)
      · have e : i = n := by omega
        rw [e] at ha
        exact mm_vret dJ7_fill_53178_20 rfl (⟨rfl, ha, hf⟩)
      · omega
    | succ m ih =>
      intro i h1 hn ha hf
      refine mm_iload_n dJ7_fill_53178_5 rfl 1 rfl ?_
      refine mm_iload_n dJ7_fill_53178_6 rfl 0 rfl ?_
      refine mn_icmp_ge (tgt := 20) dJ7_fill_53178_7 (by decide) (by omega) (by omega) (fun c7 => ?_) (fun c7 => ?_)
      · omega
      · refine mm_aload_n dJ7_fill_53178_10 rfl 2 rfl ?_
        refine mm_iload_n dJ7_fill_53178_11 rfl 1 rfl ?_
        refine mm_iload_n dJ7_fill_53178_12 rfl 3 rfl ?_
        refine cm_iast (i := i) dJ7_fill_53178_13 ha hf (AA_lt hA 0 (by decide)) (AA_0 hA) (by omega) hn31 (fun h2 ha hf => ?_)
        rw [fxa_s] at ha
        refine mn_iinc (m := 1) (L' := [(2, .int (nI (i + 1))), (3, .int (nI (n))), (0, .ref (o + b)), (1, .int (v))]) dJ7_fill_53178_14 (by decide) 1 rfl (by decide) rfl ?_
        refine mm_goto (tgt := 5) dJ7_fill_53178_17 (by decide) ?_
        refine mn_sub [1, 0, 2, 3] rfl ?_
        exact ih (i + 1) h2 (by omega) ha hf
  refine mm_iconst (v := nI 0) dJ7_fill_53178_0 (by decide) ?_
  refine mm_istore_n (L' := [(2, .int (nI (0))), (0, .ref (o + b)), (1, .int (v))]) dJ7_fill_53178_1 rfl (by decide) rfl ?_
  refine mm_aload_n dJ7_fill_53178_2 rfl 1 rfl ?_
  refine cm_alenI dJ7_fill_53178_3 ha (AA_lt hA 0 (by decide)) (AA_0 hA) ?_
  refine mm_istore_n (L' := [(3, .int (nI (n))), (2, .int (nI (0))), (0, .ref (o + b)), (1, .int (v))]) dJ7_fill_53178_4 rfl (by decide) rfl ?_
  exact lp n 0 h (by omega) (by rw [fxa_0]; exact ha) cm_fr.rf
set_option maxRecDepth 100000 in
set_option maxHeartbeats 4000000 in
theorem cs_clear {l : Launch} {D : va_G} {aa : Nat → ClassId} {b0 : Nat} {h : mm_H} {o : Nat} {X : Nat → Nat → Int32} {Y : Nat → Nat → Int64} {rl : Option Nat}  (ha : cm_at o X Y rl h) : mm_V (zz_K l D aa b0) 1 yX7_clear cX7_clear 1 none 0 [(0, .ref (o + 10))] [] h 0 0 (fun rv h' => rv = none ∧ cm_at o ((fxa (fxa (fxa (fxa (fxa (fxa (fxa (fxa (fxa (xu X 10 9 (nI 0)) 11 3591 (nI 0)) 12 189 (nI 0)) 13 189 (nI 0)) 14 189 (nI 0)) 15 7 (nI 0)) 16 7 (nI 0)) 17 7 (nI 0)) 18 7 (nI 0)) 19 7 (nI 0))) Y rl h' ∧ cm_fr o h h') := by
  have hf := cm_fr.rf (o := o) (h := h)
  refine mm_aload_n dX7_clear_0 rfl 0 rfl ?_
  refine mm_iconst (v := nI 0) dX7_clear_1 (by decide) ?_
  refine cm_putI dX7_clear_2 ha hf zp_X7_93 (by decide) rfl rfl rfl rfl (fun h ha hf => ?_)
  refine mm_aload_n dX7_clear_5 rfl 0 rfl ?_
  refine cm_getR (b := 11) dX7_clear_6 ha zr_X7_11 (by decide) rfl rfl rfl ?_
  refine mm_iconst (v := nI 0) dX7_clear_9 (by decide) ?_
  refine rm_callS (As := [.ref (o + 11), .int (nI (0))]) (rest := []) (d2 := 0) dX7_clear_10 zc_X7_96 rfl rfl (Nat.le_of_ble_eq_true rfl) (Nat.le_of_ble_eq_true rfl) (by decide) (cj_fill ha (b := 11) (n := 3591) ⟨by decide, rfl⟩ (by decide)) (fun r h1 hq => ?_)
  obtain ⟨rfl, ha, hf'⟩ := hq
  have hf := hf.tr hf'
  refine mm_aload_n dX7_clear_13 rfl 0 rfl ?_
  refine cm_getR (b := 12) dX7_clear_14 ha zr_X7_15 (by decide) rfl rfl rfl ?_
  refine mm_iconst (v := nI 0) dX7_clear_17 (by decide) ?_
  refine rm_callS (As := [.ref (o + 12), .int (nI (0))]) (rest := []) (d2 := 0) dX7_clear_18 zc_X7_96 rfl rfl (Nat.le_of_ble_eq_true rfl) (Nat.le_of_ble_eq_true rfl) (by decide) (cj_fill ha (b := 12) (n := 189) ⟨by decide, rfl⟩ (by decide)) (fun r h1 hq => ?_)
  obtain ⟨rfl, ha, hf'⟩ := hq
  have hf := hf.tr hf'
  refine mm_aload_n dX7_clear_21 rfl 0 rfl ?_
  refine cm_getR (b := 13) dX7_clear_22 ha zr_X7_18 (by decide) rfl rfl rfl ?_
  refine mm_iconst (v := nI 0) dX7_clear_25 (by decide) ?_
  refine rm_callS (As := [.ref (o + 13), .int (nI (0))]) (rest := []) (d2 := 0) dX7_clear_26 zc_X7_96 rfl rfl (Nat.le_of_ble_eq_true rfl) (Nat.le_of_ble_eq_true rfl) (by decide) (cj_fill ha (b := 13) (n := 189) ⟨by decide, rfl⟩ (by decide)) (fun r h1 hq => ?_)
  obtain ⟨rfl, ha, hf'⟩ := hq
  have hf := hf.tr hf'
  refine mm_aload_n dX7_clear_29 rfl 0 rfl ?_
  refine cm_getR (b := 14) dX7_clear_30 ha zr_X7_21 (by decide) rfl rfl rfl ?_
  refine mm_iconst (v := nI 0) dX7_clear_33 (by decide) ?_
  refine rm_callS (As := [.ref (o + 14), .int (nI (0))]) (rest := []) (d2 := 0) dX7_clear_34 zc_X7_96 rfl rfl (Nat.le_of_ble_eq_true rfl) (Nat.le_of_ble_eq_true rfl) (by decide) (cj_fill ha (b := 14) (n := 189) ⟨by decide, rfl⟩ (by decide)) (fun r h1 hq => ?_)
  obtain ⟨rfl, ha, hf'⟩ := hq
  have hf := hf.tr hf'
  refine mm_aload_n dX7_clear_37 rfl 0 rfl ?_
  refine cm_getR (b := 15) dX7_clear_38 ha zr_X7_24 (by decide) rfl rfl rfl ?_
  refine mm_iconst (v := nI 0) dX7_clear_41 (by decide) ?_
  refine rm_callS (As := [.ref (o + 15), .int (nI (0))]) (rest := []) (d2 := 0) dX7_clear_42 zc_X7_96 rfl rfl (Nat.le_of_ble_eq_true rfl) (Nat.le_of_ble_eq_true rfl) (by decide) (cj_fill ha (b := 15) (n := 7) ⟨by decide, rfl⟩ (by decide)) (fun r h1 hq => ?_)
  obtain ⟨rfl, ha, hf'⟩ := hq
  have hf := hf.tr hf'
  refine mm_aload_n dX7_clear_45 rfl 0 rfl ?_
  refine cm_getR (b := 16) dX7_clear_46 ha zr_X7_27 (by decide) rfl rfl rfl ?_
  refine mm_iconst (v := nI 0) dX7_clear_49 (by decide) ?_
  refine rm_callS (As := [.ref (o + 16), .int (nI (0))]) (rest := []) (d2 := 0) dX7_clear_50 zc_X7_96 rfl rfl (Nat.le_of_ble_eq_true rfl) (Nat.le_of_ble_eq_true rfl) (by decide) (cj_fill ha (b := 16) (n := 7) ⟨by decide, rfl⟩ (by decide)) (fun r h1 hq => ?_)
  obtain ⟨rfl, ha, hf'⟩ := hq
  have hf := hf.tr hf'
  refine mm_aload_n dX7_clear_53 rfl 0 rfl ?_
  refine cm_getR (b := 17) dX7_clear_54 ha zr_X7_30 (by decide) rfl rfl rfl ?_
  refine mm_iconst (v := nI 0) dX7_clear_57 (by decide) ?_
  refine rm_callS (As := [.ref (o + 17), .int (nI (0))]) (rest := []) (d2 := 0) dX7_clear_58 zc_X7_96 rfl rfl (Nat.le_of_ble_eq_true rfl) (Nat.le_of_ble_eq_true rfl) (by decide) (cj_fill ha (b := 17) (n := 7) ⟨by decide, rfl⟩ (by decide)) (fun r h1 hq => ?_)
  obtain ⟨rfl, ha, hf'⟩ := hq
  have hf := hf.tr hf'
  refine mm_aload_n dX7_clear_61 rfl 0 rfl ?_
  refine cm_getR (b := 18) dX7_clear_62 ha zr_X7_33 (by decide) rfl rfl rfl ?_
  refine mm_iconst (v := nI 0) dX7_clear_65 (by decide) ?_
  refine rm_callS (As := [.ref (o + 18), .int (nI (0))]) (rest := []) (d2 := 0) dX7_clear_66 zc_X7_96 rfl rfl (Nat.le_of_ble_eq_true rfl) (Nat.le_of_ble_eq_true rfl) (by decide) (cj_fill ha (b := 18) (n := 7) ⟨by decide, rfl⟩ (by decide)) (fun r h1 hq => ?_)
  obtain ⟨rfl, ha, hf'⟩ := hq
  have hf := hf.tr hf'
  refine mm_aload_n dX7_clear_69 rfl 0 rfl ?_
  refine cm_getR (b := 19) dX7_clear_70 ha zr_X7_36 (by decide) rfl rfl rfl ?_
  refine mm_iconst (v := nI 0) dX7_clear_73 (by decide) ?_
  refine rm_callS (As := [.ref (o + 19), .int (nI (0))]) (rest := []) (d2 := 0) dX7_clear_74 zc_X7_96 rfl rfl (Nat.le_of_ble_eq_true rfl) (Nat.le_of_ble_eq_true rfl) (by decide) (cj_fill ha (b := 19) (n := 7) ⟨by decide, rfl⟩ (by decide)) (fun r h1 hq => ?_)
  obtain ⟨rfl, ha, hf'⟩ := hq
  have hf := hf.tr hf'
  exact mm_vret dX7_clear_77 rfl (⟨rfl, ha, hf⟩)
set_option maxRecDepth 100000 in
set_option maxHeartbeats 4000000 in
theorem cs_itemEnds {l : Launch} {D : va_G} {aa : Nat → ClassId} {b0 : Nat} {h : mm_H} {o : Nat} {X : Nat → Nat → Int32} {Y : Nat → Nat → Int64} {rl : Option Nat} {g p : Nat} {U P : Nat → Nat} (ha : cm_at o X Y rl h) (hU : tm_ X 12 189 U) (hP : tm_ X 13 189 P) (hg : g ≤ 4) (hp : p ≤ 26) : mm_V (zz_K l D aa b0) 1 yX7_itemEnds cX7_itemEnds 5 (some .int) 0 [(0, .ref (o + 10)), (1, .int (nI (g))), (2, .int (nI (p)))] [] h 0 0 (fun rv h' => h' = h ∧ rv = some (.int (nI (ie_ U P p (g + 1))))) := by
  have lp : ∀ m k : Nat, k + m = g + 1 → mm_V (zz_K l D aa b0) 1 yX7_itemEnds cX7_itemEnds 5 (some .int) 5 [(4, .int (nI (k))), (3, .int (nI (ie_ U P p k))), (0, .ref (o + 10)), (1, .int (nI (g))), (2, .int (nI (p)))] [] h 0 0 (fun rv h' => h' = h ∧ rv = some (.int (nI (ie_ U P p (g + 1))))) := by
    intro m
    induction m with
    | zero =>
      intro k hn
      refine mm_iload dX7_itemEnds_5 0 rfl ?_
      refine mm_iload_n dX7_itemEnds_7 rfl 3 rfl ?_
      refine mn_icmp_gt (tgt := 41) dX7_itemEnds_8 (by decide) (by omega) (by omega) (fun c8 => ?_) (fun c8 => ?_)
      · refine mm_iload_n dX7_itemEnds_41 rfl 1 rfl ?_
        exact mm_iret dX7_itemEnds_42 rfl (⟨rfl, by rw [show k = g + 1 from by omega]⟩)
      · omega
    | succ m ih =>
      intro k hn
      refine mm_iload dX7_itemEnds_5 0 rfl ?_
      refine mm_iload_n dX7_itemEnds_7 rfl 3 rfl ?_
      refine mn_icmp_gt (tgt := 41) dX7_itemEnds_8 (by decide) (by omega) (by omega) (fun c8 => ?_) (fun c8 => ?_)
      · omega
      · refine mm_iload_n dX7_itemEnds_11 rfl 1 rfl ?_
        refine mm_aload_n dX7_itemEnds_12 rfl 2 rfl ?_
        refine cm_getR (b := 12) dX7_itemEnds_13 ha zr_X7_15 (by decide) rfl rfl rfl ?_
        refine mm_iload dX7_itemEnds_16 0 rfl ?_
        refine mm_iload_n dX7_itemEnds_18 rfl 4 rfl ?_
        refine rm_callSr (As := [.ref (o + 12), .int (nI (k)), .int (nI (p))]) (rest := [.int (nI (ie_ U P p k))]) (d2 := 0) dX7_itemEnds_19 zc_X7_116 rfl rfl (Nat.le_of_ble_eq_true rfl) (Nat.le_of_ble_eq_true rfl) (by decide) (cs_endsIn (T := U) ha (Or.inl rfl) hU (by omega) (by omega)) ?_
        refine mn_top (u := .int (nI (U (k * 27 + p)))) (congrArg Value.int (by rw [if_pos (by omega)])) ?_
        refine mm_aload_n dX7_itemEnds_22 rfl 2 rfl ?_
        refine cm_getR (b := 13) dX7_itemEnds_23 ha zr_X7_18 (by decide) rfl rfl rfl ?_
        refine mm_iload dX7_itemEnds_26 0 rfl ?_
        refine mm_iload_n dX7_itemEnds_28 rfl 4 rfl ?_
        refine rm_callSr (As := [.ref (o + 13), .int (nI (k)), .int (nI (p))]) (rest := [.int (nI (U (k * 27 + p))), .int (nI (ie_ U P p k))]) (d2 := 0) dX7_itemEnds_29 zc_X7_116 rfl rfl (Nat.le_of_ble_eq_true rfl) (Nat.le_of_ble_eq_true rfl) (by decide) (cs_endsIn (T := P) ha (Or.inr (Or.inl rfl)) hP (by omega) (by omega)) ?_
        refine mn_top (u := .int (nI (P (k * 27 + p)))) (congrArg Value.int (by rw [if_pos (by omega)])) ?_
        refine mn_ior dX7_itemEnds_32 ?_
        refine mn_ior dX7_itemEnds_33 ?_
        refine mm_istore_n (L' := [(3, .int (nI ((ie_ U P p k) ||| ((U (k * 27 + p)) ||| (P (k * 27 + p)))))), (4, .int (nI (k))), (0, .ref (o + 10)), (1, .int (nI (g))), (2, .int (nI (p)))]) dX7_itemEnds_34 rfl (by decide) rfl ?_
        refine mn_iinc (m := 1) (L' := [(4, .int (nI (k + 1))), (3, .int (nI ((ie_ U P p k) ||| ((U (k * 27 + p)) ||| (P (k * 27 + p)))))), (0, .ref (o + 10)), (1, .int (nI (g))), (2, .int (nI (p)))]) dX7_itemEnds_35 (by decide) 1 rfl (by decide) rfl ?_
        refine mm_goto (tgt := 5) dX7_itemEnds_38 (by decide) ?_
        refine mn_sub [0, 1, 2, 3, 4] rfl ?_
        exact ih (k + 1) (by omega)
  refine mm_iconst (v := nI 0) dX7_itemEnds_0 (by decide) ?_
  refine mm_istore_n (L' := [(3, .int (nI (0))), (0, .ref (o + 10)), (1, .int (nI (g))), (2, .int (nI (p)))]) dX7_itemEnds_1 rfl (by decide) rfl ?_
  refine mm_iconst (v := nI 0) dX7_itemEnds_2 (by decide) ?_
  refine mm_istore (L' := [(4, .int (nI (0))), (3, .int (nI (0))), (0, .ref (o + 10)), (1, .int (nI (g))), (2, .int (nI (p)))]) dX7_itemEnds_3 (by decide) rfl ?_
  exact lp (g + 1) 0 (by omega)
set_option maxRecDepth 100000 in
set_option maxHeartbeats 4000000 in
theorem cs_joinItems {l : Launch} {D : va_G} {aa : Nat → ClassId} {b0 : Nat} {h : mm_H} {o : Nat} {X : Nat → Nat → Int32} {Y : Nat → Nat → Int64} {rl : Option Nat} {g sz : Nat} {U P : Nat → Nat} (ha : cm_at o X Y rl h) (hU : tm_ X 12 189 U) (hP : tm_ X 13 189 P) (hUP : ∀ j, U j < 2 ^ 27 ∧ P j < 2 ^ 27) (hsz : X 10 10 = nI sz) (hs : sz ≤ 24) (hg : g ≤ 4) : mm_V (zz_K l D aa b0) 2 yX7_joinItems cX7_joinItems 3 none 0 [(0, .ref (o + 10)), (1, .int (nI (g)))] [] h 0 0 (fun rv h' => rv = none ∧ cm_at o (xu (xu X 10 11 (nI (tE_ (fun z => ie_ U P z (g + 1)) sz sz))) 10 12 (nI (rh_ (fun z => ie_ U P z (g + 1)) sz))) Y rl h' ∧ cm_fr o h h') := by
  have hIE : ∀ z, ie_ U P z (g + 1) < 2 ^ 27 := fun z => ie_lt hUP (g + 1)
  have lp2 : ∀ (m p : Nat) (h1 : mm_H), p + m = sz → cm_at o (xu (xu X 10 11 (nI (tE_ (fun z => ie_ U P z (g + 1)) sz sz))) 10 12 (nI (rh_ (fun z => ie_ U P z (g + 1)) p))) Y rl h1 → cm_fr o h h1 → mm_V (zz_K l D aa b0) 2 yX7_joinItems cX7_joinItems 3 none 64 [(2, .int (nI (p))), (0, .ref (o + 10)), (1, .int (nI (g)))] [] h1 0 0 (fun rv h' => rv = none ∧ cm_at o (xu (xu X 10 11 (nI (tE_ (fun z => ie_ U P z (g + 1)) sz sz))) 10 12 (nI (rh_ (fun z => ie_ U P z (g + 1)) sz))) Y rl h' ∧ cm_fr o h h') := by
    intro m
    induction m with
    | zero =>
      intro p h1 hn ha hf
      refine mm_iload_n dX7_joinItems_64 rfl 0 rfl ?_
      refine mm_aload_n dX7_joinItems_65 rfl 1 rfl ?_
      refine cm_getI dX7_joinItems_66 ha zr_X7_54 (by decide) rfl rfl ?_
      refine mn_top (u := .int (nI (sz))) (congrArg Value.int (Eq.trans (xu_i (by decide)) (Eq.trans (xu_i (by decide)) ((hsz))))) ?_
      refine mn_icmp_ge (tgt := 108) dX7_joinItems_69 (by decide) (by omega) (by omega) (fun c69 => ?_) (fun c69 => ?_)
      · have e : p = sz := by omega
        rw [e] at ha
        exact mm_vret dX7_joinItems_108 rfl (⟨rfl, ha, hf⟩)
      · omega
    | succ m ih =>
      intro p h1 hn ha hf
      refine mm_iload_n dX7_joinItems_64 rfl 0 rfl ?_
      refine mm_aload_n dX7_joinItems_65 rfl 1 rfl ?_
      refine cm_getI dX7_joinItems_66 ha zr_X7_54 (by decide) rfl rfl ?_
      refine mn_top (u := .int (nI (sz))) (congrArg Value.int (Eq.trans (xu_i (by decide)) (Eq.trans (xu_i (by decide)) ((hsz))))) ?_
      refine mn_icmp_ge (tgt := 108) dX7_joinItems_69 (by decide) (by omega) (by omega) (fun c69 => ?_) (fun c69 => ?_)
      · omega
      · have hrh := rh_lt (IE := (fun z => ie_ U P z (g + 1))) hIE p
        refine mm_aload_n dX7_joinItems_72 rfl 1 rfl ?_
        refine mm_dup dX7_joinItems_73 rfl ?_
        refine cm_getI dX7_joinItems_74 ha zr_X7_142 (by decide) rfl rfl ?_
        refine mn_top (u := .int (nI (rh_ (fun z => ie_ U P z (g + 1)) p))) (congrArg Value.int (xu_s)) ?_
        refine mm_aload_n dX7_joinItems_77 rfl 1 rfl ?_
        refine cm_getI dX7_joinItems_78 ha zr_X7_142 (by decide) rfl rfl ?_
        refine mn_top (u := .int (nI (rh_ (fun z => ie_ U P z (g + 1)) p))) (congrArg Value.int (xu_s)) ?_
        refine mm_iload_n dX7_joinItems_81 rfl 0 rfl ?_
        refine mn_ishr dX7_joinItems_82 (lt31 hrh) (by omega) ?_
        refine mm_iconst (v := nI 1) dX7_joinItems_83 (by decide) ?_
        refine mn_iand dX7_joinItems_84 ?_
        refine mn_if_eq (tgt := 97) dX7_joinItems_85 (by decide) (and31 (shr31 (lt31 hrh))) (fun c85 => ?_) (fun c85 => ?_)
        · rw [bit_1] at c85
          refine mm_iconst (v := nI 0) dX7_joinItems_97 (by decide) ?_
          refine mn_ior dX7_joinItems_98 ?_
          refine mn_top (u := .int (nI (rh_ (fun z => ie_ U P z (g + 1)) (p + 1)))) (congrArg Value.int (by show nI (_ ||| 0) = nI (rh_ (fun z => ie_ U P z (g + 1)) p ||| (if (rh_ (fun z => ie_ U P z (g + 1)) p).testBit p = true then ie_ U P p (g + 1) else 0)); rw [if_neg (fun z => by rw [if_pos z] at c85; cases c85)])) ?_
          refine cm_putI dX7_joinItems_99 ha hf zp_X7_142 (by decide) rfl rfl rfl rfl (fun h1 ha hf => ?_)
          rw [xu_xu] at ha
          refine mn_iinc (m := 1) (L' := [(2, .int (nI (p + 1))), (0, .ref (o + 10)), (1, .int (nI (g)))]) dX7_joinItems_102 (by decide) 0 rfl (by decide) rfl ?_
          refine mm_goto (tgt := 64) dX7_joinItems_105 (by decide) ?_
          refine mn_sub [0, 1, 2] rfl ?_
          exact ih (p + 1) _ (by omega) ha hf
        · rw [bit_1] at c85
          refine mm_aload_n dX7_joinItems_88 rfl 1 rfl ?_
          refine mm_iload_n dX7_joinItems_89 rfl 2 rfl ?_
          refine mm_iload_n dX7_joinItems_90 rfl 0 rfl ?_
          refine cm_callVr (As := [.int (nI (g)), .int (nI (p))]) (rest := [.int (nI (rh_ (fun z => ie_ U P z (g + 1)) p)), .ref (o + 10)]) (d2 := 1) dX7_joinItems_91 ha (by decide) rfl zz_clX7 zc_X7_138 zs_X7_itemEnds rfl rfl (Nat.le_of_ble_eq_true rfl) (Nat.le_of_ble_eq_true rfl) (by decide) (cs_itemEnds ha (tm_xo (tm_xo hU (by decide)) (by decide)) (tm_xo (tm_xo hP (by decide)) (by decide)) hg (by omega)) ?_
          refine mm_goto (tgt := 98) dX7_joinItems_94 (by decide) ?_
          refine mn_ior dX7_joinItems_98 ?_
          refine mn_top (u := .int (nI (rh_ (fun z => ie_ U P z (g + 1)) (p + 1)))) (congrArg Value.int (by show nI (_ ||| ie_ U P p (g + 1)) = nI (rh_ (fun z => ie_ U P z (g + 1)) p ||| (if (rh_ (fun z => ie_ U P z (g + 1)) p).testBit p = true then ie_ U P p (g + 1) else 0)); rw [if_pos (Classical.not_not.mp (fun z => c85 (if_neg z)))])) ?_
          refine cm_putI dX7_joinItems_99 ha hf zp_X7_142 (by decide) rfl rfl rfl rfl (fun h1 ha hf => ?_)
          rw [xu_xu] at ha
          refine mn_iinc (m := 1) (L' := [(2, .int (nI (p + 1))), (0, .ref (o + 10)), (1, .int (nI (g)))]) dX7_joinItems_102 (by decide) 0 rfl (by decide) rfl ?_
          refine mm_goto (tgt := 64) dX7_joinItems_105 (by decide) ?_
          refine mn_sub [0, 1, 2] rfl ?_
          exact ih (p + 1) _ (by omega) ha hf
  have en1 : ∀ h1 : mm_H, cm_at o (xu X 10 11 (nI (tE_ (fun z => ie_ U P z (g + 1)) sz sz))) Y rl h1 → cm_fr o h h1 → mm_V (zz_K l D aa b0) 2 yX7_joinItems cX7_joinItems 3 none 17 [(2, .int ((-1))), (0, .ref (o + 10)), (1, .int (nI (g)))] [] h1 0 0 (fun rv h' => rv = none ∧ cm_at o (xu (xu X 10 11 (nI (tE_ (fun z => ie_ U P z (g + 1)) sz sz))) 10 12 (nI (rh_ (fun z => ie_ U P z (g + 1)) sz))) Y rl h' ∧ cm_fr o h h') := by
    intro h1 ha hf
    refine mm_iload_n dX7_joinItems_17 rfl 0 rfl ?_
    refine mm_if_lt (tgt := 57) dX7_joinItems_18 (by decide) (fun c18 => ?_) (fun c18 => ?_)
    · refine mm_aload_n dX7_joinItems_57 rfl 1 rfl ?_
      refine mm_iconst (v := nI 1) dX7_joinItems_58 (by decide) ?_
      refine cm_putI dX7_joinItems_59 ha hf zp_X7_142 (by decide) rfl rfl rfl rfl (fun h1 ha hf => ?_)
      refine mm_iconst (v := nI 0) dX7_joinItems_62 (by decide) ?_
      refine mm_istore_n (L' := [(2, .int (nI (0))), (0, .ref (o + 10)), (1, .int (nI (g)))]) dX7_joinItems_63 rfl (by decide) rfl ?_
      refine mn_sub [0, 1, 2] rfl ?_
      exact lp2 sz 0 _ (by omega) ha hf
    · exact absurd (by decide) c18
  have lp1 : ∀ (q n : Nat) (h1 : mm_H), q + n + 1 = sz → cm_at o (xu X 10 11 (nI (tE_ (fun z => ie_ U P z (g + 1)) sz n))) Y rl h1 → cm_fr o h h1 → mm_V (zz_K l D aa b0) 2 yX7_joinItems cX7_joinItems 3 none 17 [(2, .int (nI (q))), (0, .ref (o + 10)), (1, .int (nI (g)))] [] h1 0 0 (fun rv h' => rv = none ∧ cm_at o (xu (xu X 10 11 (nI (tE_ (fun z => ie_ U P z (g + 1)) sz sz))) 10 12 (nI (rh_ (fun z => ie_ U P z (g + 1)) sz))) Y rl h' ∧ cm_fr o h h') := by
    intro q
    induction q with
    | zero =>
      intro n h1 hn ha hf
      refine mm_iload_n dX7_joinItems_17 rfl 0 rfl ?_
      refine mn_if_lt (tgt := 57) dX7_joinItems_18 (by decide) (by omega) ?_
      have hte := tE_lt (IE := (fun z => ie_ U P z (g + 1))) hs n
      refine mm_aload_n dX7_joinItems_21 rfl 1 rfl ?_
      refine mm_dup dX7_joinItems_22 rfl ?_
      refine cm_getI dX7_joinItems_23 ha zr_X7_135 (by decide) rfl rfl ?_
      refine mn_top (u := .int (nI (tE_ (fun z => ie_ U P z (g + 1)) sz n))) (congrArg Value.int (xu_s)) ?_
      refine mm_aload_n dX7_joinItems_26 rfl 1 rfl ?_
      refine mm_iload_n dX7_joinItems_27 rfl 2 rfl ?_
      refine mm_iload_n dX7_joinItems_28 rfl 0 rfl ?_
      refine cm_callVr (As := [.int (nI (g)), .int (nI (0))]) (rest := [.int (nI (tE_ (fun z => ie_ U P z (g + 1)) sz n)), .ref (o + 10)]) (d2 := 1) dX7_joinItems_29 ha (by decide) rfl zz_clX7 zc_X7_138 zs_X7_itemEnds rfl rfl (Nat.le_of_ble_eq_true rfl) (Nat.le_of_ble_eq_true rfl) (by decide) (cs_itemEnds ha (tm_xo hU (by decide)) (tm_xo hP (by decide)) hg (by omega)) ?_
      refine mm_aload_n dX7_joinItems_32 rfl 1 rfl ?_
      refine cm_getI dX7_joinItems_33 ha zr_X7_135 (by decide) rfl rfl ?_
      refine mn_top (u := .int (nI (tE_ (fun z => ie_ U P z (g + 1)) sz n))) (congrArg Value.int (xu_s)) ?_
      refine mn_iand dX7_joinItems_36 ?_
      refine mn_if_eq (tgt := 46) dX7_joinItems_37 (by decide) (and31 (lt31 (hIE _))) (fun c37 => ?_) (fun c37 => ?_)
      · refine mm_iconst (v := nI 0) dX7_joinItems_46 (by decide) ?_
        refine mn_ior dX7_joinItems_47 ?_
        refine mn_top (u := .int (nI (tE_ (fun z => ie_ U P z (g + 1)) sz (n + 1)))) (congrArg Value.int (by show nI (_ ||| 0) = nI (tE_ (fun z => ie_ U P z (g + 1)) sz n ||| (if ie_ U P (sz - 1 - n) (g + 1) &&& tE_ (fun z => ie_ U P z (g + 1)) sz n ≠ 0 then 1 <<< (sz - 1 - n) else 0)); rw [show sz - 1 - n = 0 from by omega, if_neg (fun y => y c37)])) ?_
        refine cm_putI dX7_joinItems_48 ha hf zp_X7_135 (by decide) rfl rfl rfl rfl (fun h1 ha hf => ?_)
        rw [xu_xu] at ha
        refine mm_iinc (v := (-1)) (L' := [(2, .int ((-1))), (0, .ref (o + 10)), (1, .int (nI (g)))]) dX7_joinItems_51 0 rfl (by decide) (by decide) rfl ?_
        refine mm_goto (tgt := 17) dX7_joinItems_54 (by decide) ?_
        refine mn_sub [0, 1, 2] rfl ?_
        rw [show n + 1 = sz from by omega] at ha
        exact en1 _ ha hf
      · refine mm_iconst (v := nI 1) dX7_joinItems_40 (by decide) ?_
        refine mm_iload_n dX7_joinItems_41 rfl 0 rfl ?_
        refine mn_ishl dX7_joinItems_42 (by omega) ?_
        refine mm_goto (tgt := 47) dX7_joinItems_43 (by decide) ?_
        refine mn_ior dX7_joinItems_47 ?_
        refine mn_top (u := .int (nI (tE_ (fun z => ie_ U P z (g + 1)) sz (n + 1)))) (congrArg Value.int (by show nI (_ ||| 1 <<< (0)) = nI (tE_ (fun z => ie_ U P z (g + 1)) sz n ||| (if ie_ U P (sz - 1 - n) (g + 1) &&& tE_ (fun z => ie_ U P z (g + 1)) sz n ≠ 0 then 1 <<< (sz - 1 - n) else 0)); rw [show sz - 1 - n = 0 from by omega, if_pos c37])) ?_
        refine cm_putI dX7_joinItems_48 ha hf zp_X7_135 (by decide) rfl rfl rfl rfl (fun h1 ha hf => ?_)
        rw [xu_xu] at ha
        refine mm_iinc (v := (-1)) (L' := [(2, .int ((-1))), (0, .ref (o + 10)), (1, .int (nI (g)))]) dX7_joinItems_51 0 rfl (by decide) (by decide) rfl ?_
        refine mm_goto (tgt := 17) dX7_joinItems_54 (by decide) ?_
        refine mn_sub [0, 1, 2] rfl ?_
        rw [show n + 1 = sz from by omega] at ha
        exact en1 _ ha hf
    | succ q ih =>
      intro n h1 hn ha hf
      refine mm_iload_n dX7_joinItems_17 rfl 0 rfl ?_
      refine mn_if_lt (tgt := 57) dX7_joinItems_18 (by decide) (by omega) ?_
      have hte := tE_lt (IE := (fun z => ie_ U P z (g + 1))) hs n
      refine mm_aload_n dX7_joinItems_21 rfl 1 rfl ?_
      refine mm_dup dX7_joinItems_22 rfl ?_
      refine cm_getI dX7_joinItems_23 ha zr_X7_135 (by decide) rfl rfl ?_
      refine mn_top (u := .int (nI (tE_ (fun z => ie_ U P z (g + 1)) sz n))) (congrArg Value.int (xu_s)) ?_
      refine mm_aload_n dX7_joinItems_26 rfl 1 rfl ?_
      refine mm_iload_n dX7_joinItems_27 rfl 2 rfl ?_
      refine mm_iload_n dX7_joinItems_28 rfl 0 rfl ?_
      refine cm_callVr (As := [.int (nI (g)), .int (nI (q + 1))]) (rest := [.int (nI (tE_ (fun z => ie_ U P z (g + 1)) sz n)), .ref (o + 10)]) (d2 := 1) dX7_joinItems_29 ha (by decide) rfl zz_clX7 zc_X7_138 zs_X7_itemEnds rfl rfl (Nat.le_of_ble_eq_true rfl) (Nat.le_of_ble_eq_true rfl) (by decide) (cs_itemEnds ha (tm_xo hU (by decide)) (tm_xo hP (by decide)) hg (by omega)) ?_
      refine mm_aload_n dX7_joinItems_32 rfl 1 rfl ?_
      refine cm_getI dX7_joinItems_33 ha zr_X7_135 (by decide) rfl rfl ?_
      refine mn_top (u := .int (nI (tE_ (fun z => ie_ U P z (g + 1)) sz n))) (congrArg Value.int (xu_s)) ?_
      refine mn_iand dX7_joinItems_36 ?_
      refine mn_if_eq (tgt := 46) dX7_joinItems_37 (by decide) (and31 (lt31 (hIE _))) (fun c37 => ?_) (fun c37 => ?_)
      · refine mm_iconst (v := nI 0) dX7_joinItems_46 (by decide) ?_
        refine mn_ior dX7_joinItems_47 ?_
        refine mn_top (u := .int (nI (tE_ (fun z => ie_ U P z (g + 1)) sz (n + 1)))) (congrArg Value.int (by show nI (_ ||| 0) = nI (tE_ (fun z => ie_ U P z (g + 1)) sz n ||| (if ie_ U P (sz - 1 - n) (g + 1) &&& tE_ (fun z => ie_ U P z (g + 1)) sz n ≠ 0 then 1 <<< (sz - 1 - n) else 0)); rw [show sz - 1 - n = q + 1 from by omega, if_neg (fun y => y c37)])) ?_
        refine cm_putI dX7_joinItems_48 ha hf zp_X7_135 (by decide) rfl rfl rfl rfl (fun h1 ha hf => ?_)
        rw [xu_xu] at ha
        refine mn_idec (L' := [(2, .int (nI (q))), (0, .ref (o + 10)), (1, .int (nI (g)))]) dX7_joinItems_51 0 rfl (by decide) rfl ?_
        refine mm_goto (tgt := 17) dX7_joinItems_54 (by decide) ?_
        refine mn_sub [0, 1, 2] rfl ?_
        exact ih (n + 1) _ (by omega) ha hf
      · refine mm_iconst (v := nI 1) dX7_joinItems_40 (by decide) ?_
        refine mm_iload_n dX7_joinItems_41 rfl 0 rfl ?_
        refine mn_ishl dX7_joinItems_42 (by omega) ?_
        refine mm_goto (tgt := 47) dX7_joinItems_43 (by decide) ?_
        refine mn_ior dX7_joinItems_47 ?_
        refine mn_top (u := .int (nI (tE_ (fun z => ie_ U P z (g + 1)) sz (n + 1)))) (congrArg Value.int (by show nI (_ ||| 1 <<< (q + 1)) = nI (tE_ (fun z => ie_ U P z (g + 1)) sz n ||| (if ie_ U P (sz - 1 - n) (g + 1) &&& tE_ (fun z => ie_ U P z (g + 1)) sz n ≠ 0 then 1 <<< (sz - 1 - n) else 0)); rw [show sz - 1 - n = q + 1 from by omega, if_pos c37])) ?_
        refine cm_putI dX7_joinItems_48 ha hf zp_X7_135 (by decide) rfl rfl rfl rfl (fun h1 ha hf => ?_)
        rw [xu_xu] at ha
        refine mn_idec (L' := [(2, .int (nI (q))), (0, .ref (o + 10)), (1, .int (nI (g)))]) dX7_joinItems_51 0 rfl (by decide) rfl ?_
        refine mm_goto (tgt := 17) dX7_joinItems_54 (by decide) ?_
        refine mn_sub [0, 1, 2] rfl ?_
        exact ih (n + 1) _ (by omega) ha hf
  have hf := cm_fr.rf (o := o) (h := h)
  refine mm_aload_n dX7_joinItems_0 rfl 0 rfl ?_
  refine mm_iconst (v := nI 1) dX7_joinItems_1 (by decide) ?_
  refine mm_aload_n dX7_joinItems_2 rfl 0 rfl ?_
  refine cm_getI dX7_joinItems_3 ha zr_X7_54 (by decide) rfl rfl ?_
  refine mn_top (u := .int (nI (sz))) (congrArg Value.int ((hsz))) ?_
  refine mn_ishl dX7_joinItems_6 (by omega) ?_
  refine cm_putI dX7_joinItems_7 ha hf zp_X7_135 (by decide) rfl rfl rfl rfl (fun h ha hf => ?_)
  cases sz with
  | zero =>
    refine mm_aload_n dX7_joinItems_10 rfl 0 rfl ?_
    refine cm_getI dX7_joinItems_11 ha zr_X7_54 (by decide) rfl rfl ?_
    refine mn_top (u := .int (nI (0))) (congrArg Value.int (Eq.trans (xu_i (by decide)) ((hsz)))) ?_
    refine mm_iconst (v := nI 1) dX7_joinItems_14 (by decide) ?_
    refine mm_isub dX7_joinItems_15 ?_
    refine mn_top (u := .int ((-1))) (congrArg Value.int (by decide)) ?_
    refine mm_istore_n (L' := [(2, .int ((-1))), (0, .ref (o + 10)), (1, .int (nI (g)))]) dX7_joinItems_16 rfl (by decide) rfl ?_
    exact en1 _ ha hf
  | succ n0 =>
    refine mm_aload_n dX7_joinItems_10 rfl 0 rfl ?_
    refine cm_getI dX7_joinItems_11 ha zr_X7_54 (by decide) rfl rfl ?_
    refine mn_top (u := .int (nI (n0 + 1))) (congrArg Value.int (Eq.trans (xu_i (by decide)) ((hsz)))) ?_
    refine mm_iconst (v := nI 1) dX7_joinItems_14 (by decide) ?_
    refine mn_isub dX7_joinItems_15 (by omega) ?_
    refine mn_top (u := .int (nI (n0))) (congrArg Value.int (by rw [show n0 + 1 - 1 = n0 from by omega])) ?_
    refine mm_istore_n (L' := [(2, .int (nI (n0))), (0, .ref (o + 10)), (1, .int (nI (g)))]) dX7_joinItems_16 rfl (by decide) rfl ?_
    exact lp1 n0 0 _ (by omega) ha hf
