/-! the reference: time, at -/
theorem pfA_neg {L : Nat} (h : pfA L ≠ 0) : pfA L < 0 := by
  unfold pfA at h ⊢
  by_cases c : 1000 < L
  · rw [if_pos c]; decide
  · rw [if_neg c] at h ⊢
    by_cases c2 : L = 0
    · rw [if_pos c2]; decide
    · rw [if_neg c2] at h; exact absurd rfl h
theorem pk_ltL {s : aS} {n : Nat} (hW : WF s) (hn : n < 6) (h : 0 < (aR s n).length) : aPk s n < (aR s n).length := by
  have := (hW.2.1 n hn).2.2.2.2.2.2
  omega
set_option maxRecDepth 100000 in
set_option maxHeartbeats 4000000 in
theorem tM_timeB {l : Launch} {D : va_G} {aa : Nat → ClassId} {b0 : Nat} {h : mm_H} {o : Nat} {F : Nat → Int32} {G : Nat → Int64} {A : Nat → Nat → Int32} {B : Nat → Nat → Int64} {s : aS} {n : Nat} {i w : Int32} (ha : rm_at o F G A B h) (hW : WF s) (hI : RI s F A B) (hn : n < aNv s) (hw : w < 0 ∨ nI 2 ≤ w) : mm_V (zz_K l D aa b0) 10 yX12_time cX12_time 5 (some .long) 0 [(0, .ref (o)), (1, .int (nI (n))), (2, .int (i)), (3, .int (w))] [] h 0 0 (fun r h' => h' = h ∧ r = some (.long (-2))) := by
  have hf : rm_fr o h h := rm_fr.rf
  have hn6 : n < 6 := by have := hW.1.1; omega
  have hvok := hW.2.1 n hn6
  have hsz24 : aSz s n ≤ 24 := hvok.1.2
  obtain ⟨⟨v1, w1⟩, ⟨v2, w2⟩, ⟨v3, w3⟩, ⟨v4, w4⟩, v5, w5⟩ := hI.1.2 n hn6
  have hsz24b := hsz24
  refine mm_aload_n dX12_time_0 rfl 0 rfl ?_
  refine mm_iload_n dX12_time_1 rfl 1 rfl ?_
  refine rm_callVr (As := [.int (nI (n))]) (rest := []) (d2 := 1) dX12_time_2 ha zc_isVoice zc_isVoice_s rfl rfl rfl (Nat.le_of_ble_eq_true rfl) (Nat.le_of_ble_eq_true rfl) (by decide) (tM_isVoice ha hW hI (nI_inb hn (by have := hW.1.1; omega))) ?_
  refine mn_ifB_eq (tgt := 18) dX12_time_5 (by decide) (fun c5 => ?_) (fun c5 => ?_)
  · cases c5
  · refine mm_iload_n dX12_time_8 rfl 3 rfl ?_
    refine mm_i2l dX12_time_9 ?_
    refine mm_lconst (v := lN 0) dX12_time_10 (by decide) ?_
    refine mm_lconst (v := lN 1) dX12_time_11 (by decide) ?_
    refine rm_callSr (As := [.long ((w).toInt64), .long (lN (0)), .long (lN (1))]) (rest := []) (d2 := 0) dX12_time_12 zc_isIn rfl rfl (Nat.le_of_ble_eq_true rfl) (Nat.le_of_ble_eq_true rfl) (by decide) (tm_isIn _ _ _) ?_
    refine mn_top (u := .int (nI (Bool.toNat (false)))) (congrArg Value.int (in_f (a := 0) (b := 1) (by decide) (by decide) (by omega) (by omega) (fun q => by have := i32_out (by decide) hw; omega))) ?_
    refine mn_ifB_ne (tgt := 22) dX12_time_15 (by decide) (fun c15 => ?_) (fun c15 => ?_)
    · cases c15
    · refine mm_ldc2 (v := (-2)) dX12_time_18 zk_346 ?_
      exact mm_lret dX12_time_21 rfl (⟨rfl, rfl⟩)
set_option maxRecDepth 100000 in
set_option maxHeartbeats 4000000 in
theorem tM_timeR {l : Launch} {D : va_G} {aa : Nat → ClassId} {b0 : Nat} {h : mm_H} {o : Nat} {F : Nat → Int32} {G : Nat → Int64} {A : Nat → Nat → Int32} {B : Nat → Nat → Int64} {s : aS} {n : Nat} {i : Int32} {w : Nat} (ha : rm_at o F G A B h) (hW : WF s) (hI : RI s F A B) (hn : n < aNv s) (hw : w < 2) (hr0 : pfA (aR s n).length ≠ 0) : mm_V (zz_K l D aa b0) 10 yX12_time cX12_time 5 (some .long) 0 [(0, .ref (o)), (1, .int (nI (n))), (2, .int (i)), (3, .int (nI (w)))] [] h 0 0 (fun r h' => r = some (.long (pfA (aR s n).length).toInt64) ∧ ∃ (F' : Nat → Int32) (G' : Nat → Int64) (A' : Nat → Nat → Int32), rm_at o F' G' A' B h' ∧ rm_fr o h h' ∧ RI (s) F' A' B) := by
  have hf : rm_fr o h h := rm_fr.rf
  have hn6 : n < 6 := by have := hW.1.1; omega
  have hvok := hW.2.1 n hn6
  have hsz24 : aSz s n ≤ 24 := hvok.1.2
  obtain ⟨⟨v1, w1⟩, ⟨v2, w2⟩, ⟨v3, w3⟩, ⟨v4, w4⟩, v5, w5⟩ := hI.1.2 n hn6
  have hsz24b := hsz24
  refine mm_aload_n dX12_time_0 rfl 0 rfl ?_
  refine mm_iload_n dX12_time_1 rfl 1 rfl ?_
  refine rm_callVr (As := [.int (nI (n))]) (rest := []) (d2 := 1) dX12_time_2 ha zc_isVoice zc_isVoice_s rfl rfl rfl (Nat.le_of_ble_eq_true rfl) (Nat.le_of_ble_eq_true rfl) (by decide) (tM_isVoice ha hW hI (nI_inb hn (by have := hW.1.1; omega))) ?_
  refine mn_ifB_eq (tgt := 18) dX12_time_5 (by decide) (fun c5 => ?_) (fun c5 => ?_)
  · cases c5
  · refine mm_iload_n dX12_time_8 rfl 3 rfl ?_
    refine mm_i2l dX12_time_9 ?_
    refine mm_lconst (v := lN 0) dX12_time_10 (by decide) ?_
    refine mm_lconst (v := lN 1) dX12_time_11 (by decide) ?_
    refine rm_callSr (As := [.long ((nI (w)).toInt64), .long (lN (0)), .long (lN (1))]) (rest := []) (d2 := 0) dX12_time_12 zc_isIn rfl rfl (Nat.le_of_ble_eq_true rfl) (Nat.le_of_ble_eq_true rfl) (by decide) (tm_isIn _ _ _) ?_
    refine mn_top (u := .int (nI (Bool.toNat (true)))) (congrArg Value.int (in_t (a := 0) (b := 1) (by decide) (by decide) (by omega) (by omega) ((nI_inb hw (by decide)).imp id (fun z => by omega)))) ?_
    refine mn_ifB_ne (tgt := 22) dX12_time_15 (by decide) (fun c15 => ?_) (fun c15 => ?_)
    · refine mm_aload_n dX12_time_22 rfl 0 rfl ?_
      refine mm_iload_n dX12_time_23 rfl 1 rfl ?_
      refine mm_aload_n dX12_time_24 rfl 0 rfl ?_
      refine rm_getA 5 dX12_time_25 ha zf_pickedOf (by decide) rfl ?_
      refine mm_iload_n dX12_time_28 rfl 1 rfl ?_
      refine rm_iald (k := 5) dX12_time_29 ha rfl rfl rfl (show n < 6 from (by omega)) ?_
      refine mn_top (u := .int (nI (aPk s n))) (congrArg Value.int (v5)) ?_
      refine rm_callV (As := [.int (nI (n)), .int (nI (aPk s n))]) (rest := []) (d2 := 9) dX12_time_30 ha zc_find zc_find_s rfl rfl rfl (Nat.le_of_ble_eq_true rfl) (Nat.le_of_ble_eq_true rfl) (by decide) (tM_findR ha hW hI hn (by rw [pf_rf hvok.2.2.2.2.2.2]; exact hr0)) (fun r h1 hq => ?_)
      obtain ⟨rfl, F1, A1, ha, hf', hI1⟩ := hq
      have hf := hf.tr hf'
      rw [pf_rf hvok.2.2.2.2.2.2]
      refine mm_istore (L' := [(4, .int (pfA (aR s n).length)), (0, .ref (o)), (1, .int (nI (n))), (2, .int (i)), (3, .int (nI (w)))]) dX12_time_33 (by decide) rfl ?_
      refine mm_iload dX12_time_35 0 rfl ?_
      refine mm_if_lt (tgt := 56) dX12_time_37 (by decide) (fun c37 => ?_) (fun c37 => ?_)
      · refine mm_iload dX12_time_56 0 rfl ?_
        refine mm_if_ge (tgt := 67) dX12_time_58 (by decide) (fun c58 => ?_) (fun c58 => ?_)
        · exact absurd (pfA_neg hr0) (Int32.not_lt.mpr c58)
        · refine mm_iload dX12_time_61 0 rfl ?_
          refine mm_i2l dX12_time_63 ?_
          refine mm_goto (tgt := 70) dX12_time_64 (by decide) ?_
          exact mm_lret dX12_time_70 rfl (⟨rfl, F1, _, A1, ha, hf, hI1⟩)
      · exact absurd (pfA_neg hr0) c37
    · cases c15
set_option maxRecDepth 100000 in
set_option maxHeartbeats 4000000 in
theorem tM_timeI {l : Launch} {D : va_G} {aa : Nat → ClassId} {b0 : Nat} {h : mm_H} {o : Nat} {F : Nat → Int32} {G : Nat → Int64} {A : Nat → Nat → Int32} {B : Nat → Nat → Int64} {s : aS} {n : Nat} {i : Int32} {w : Nat} {y : gR} (ha : rm_at o F G A B h) (hW : WF s) (hI : RI s F A B) (hn : n < aNv s) (hw : w < 2) (hN : (aR s n).length ≤ 1000) (hL0 : 0 < (aR s n).length) (hy : (aR s n)[aPk s n]? = some y) (hi : i < 0 ∨ nI (aSz s n + 1) ≤ i) : mm_V (zz_K l D aa b0) 10 yX12_time cX12_time 5 (some .long) 0 [(0, .ref (o)), (1, .int (nI (n))), (2, .int (i)), (3, .int (nI (w)))] [] h 0 0 (fun r h' => r = some (.long (-1)) ∧ ∃ (F' : Nat → Int32) (G' : Nat → Int64) (A' : Nat → Nat → Int32), rm_at o F' G' A' B h' ∧ rm_fr o h h' ∧ RI (s) F' A' B) := by
  have hf : rm_fr o h h := rm_fr.rf
  have hn6 : n < 6 := by have := hW.1.1; omega
  have hvok := hW.2.1 n hn6
  have hsz24 : aSz s n ≤ 24 := hvok.1.2
  obtain ⟨⟨v1, w1⟩, ⟨v2, w2⟩, ⟨v3, w3⟩, ⟨v4, w4⟩, v5, w5⟩ := hI.1.2 n hn6
  have hsz24b := hsz24
  refine mm_aload_n dX12_time_0 rfl 0 rfl ?_
  refine mm_iload_n dX12_time_1 rfl 1 rfl ?_
  refine rm_callVr (As := [.int (nI (n))]) (rest := []) (d2 := 1) dX12_time_2 ha zc_isVoice zc_isVoice_s rfl rfl rfl (Nat.le_of_ble_eq_true rfl) (Nat.le_of_ble_eq_true rfl) (by decide) (tM_isVoice ha hW hI (nI_inb hn (by have := hW.1.1; omega))) ?_
  refine mn_ifB_eq (tgt := 18) dX12_time_5 (by decide) (fun c5 => ?_) (fun c5 => ?_)
  · cases c5
  · refine mm_iload_n dX12_time_8 rfl 3 rfl ?_
    refine mm_i2l dX12_time_9 ?_
    refine mm_lconst (v := lN 0) dX12_time_10 (by decide) ?_
    refine mm_lconst (v := lN 1) dX12_time_11 (by decide) ?_
    refine rm_callSr (As := [.long ((nI (w)).toInt64), .long (lN (0)), .long (lN (1))]) (rest := []) (d2 := 0) dX12_time_12 zc_isIn rfl rfl (Nat.le_of_ble_eq_true rfl) (Nat.le_of_ble_eq_true rfl) (by decide) (tm_isIn _ _ _) ?_
    refine mn_top (u := .int (nI (Bool.toNat (true)))) (congrArg Value.int (in_t (a := 0) (b := 1) (by decide) (by decide) (by omega) (by omega) ((nI_inb hw (by decide)).imp id (fun z => by omega)))) ?_
    refine mn_ifB_ne (tgt := 22) dX12_time_15 (by decide) (fun c15 => ?_) (fun c15 => ?_)
    · refine mm_aload_n dX12_time_22 rfl 0 rfl ?_
      refine mm_iload_n dX12_time_23 rfl 1 rfl ?_
      refine mm_aload_n dX12_time_24 rfl 0 rfl ?_
      refine rm_getA 5 dX12_time_25 ha zf_pickedOf (by decide) rfl ?_
      refine mm_iload_n dX12_time_28 rfl 1 rfl ?_
      refine rm_iald (k := 5) dX12_time_29 ha rfl rfl rfl (show n < 6 from (by omega)) ?_
      refine mn_top (u := .int (nI (aPk s n))) (congrArg Value.int (v5)) ?_
      refine rm_callV (As := [.int (nI (n)), .int (nI (aPk s n))]) (rest := []) (d2 := 9) dX12_time_30 ha zc_find zc_find_s rfl rfl rfl (Nat.le_of_ble_eq_true rfl) (Nat.le_of_ble_eq_true rfl) (by decide) (tM_find ha hW hI hn hN (pk_ltL hW hn6 hL0)) (fun r h1 hq => ?_)
      obtain ⟨q, y2, rfl, hq, hy2, F1, A1, ha, hf', hI1, hfr, hvl, h42⟩ := hq
      have hf := hf.tr hf'
      have ey : y = y2 := Option.some.inj (hy.symm.trans hy2)
      subst ey
      obtain ⟨⟨v1, w1⟩, ⟨v2, w2⟩, ⟨v3, w3⟩, ⟨v4, w4⟩, v5, w5⟩ := hI1.1.2 n hn6
      have hsy := hI1.2.1
      refine mm_istore (L' := [(4, .int (nI (q))), (0, .ref (o)), (1, .int (nI (n))), (2, .int (i)), (3, .int (nI (w)))]) dX12_time_33 (by decide) rfl ?_
      refine mm_iload dX12_time_35 0 rfl ?_
      refine mn_if_lt (tgt := 56) dX12_time_37 (by decide) (by omega) ?_
      refine mm_iload_n dX12_time_40 rfl 3 rfl ?_
      refine mm_i2l dX12_time_41 ?_
      refine mm_lconst (v := lN 0) dX12_time_42 (by decide) ?_
      refine mm_aload_n dX12_time_43 rfl 1 rfl ?_
      refine rm_getA 2 dX12_time_44 ha zf_sizeOf (by decide) rfl ?_
      refine mm_iload_n dX12_time_47 rfl 2 rfl ?_
      refine rm_iald (k := 2) dX12_time_48 ha rfl rfl rfl (show n < 6 from (by omega)) ?_
      refine mn_top (u := .int (nI (aSz s n))) (congrArg Value.int (v2)) ?_
      refine mm_i2l dX12_time_49 ?_
      refine rm_callSr (As := [.long ((i).toInt64), .long (lN (0)), .long ((nI (aSz s n)).toInt64)]) (rest := []) (d2 := 0) dX12_time_50 zc_isIn rfl rfl (Nat.le_of_ble_eq_true rfl) (Nat.le_of_ble_eq_true rfl) (by decide) (tm_isIn _ _ _) ?_
      refine mn_top (u := .int (nI (Bool.toNat (false)))) (congrArg Value.int (in_f (a := 0) (b := (aSz s n : Int)) (by decide) ((lN_i2l (by omega)).symm.trans (in_n (by omega))) (by omega) (by omega) (fun q => by have := i32_out (n := aSz s n + 1) (by omega) hi; omega))) ?_
      refine mn_ifB_ne (tgt := 71) dX12_time_53 (by decide) (fun c53 => ?_) (fun c53 => ?_)
      · cases c53
      · refine mm_iload dX12_time_56 0 rfl ?_
        refine mn_if_ge (tgt := 67) dX12_time_58 (by decide) (by omega) ?_
        refine mm_ldc2 (v := (-1)) dX12_time_67 zk_348 ?_
        exact mm_lret dX12_time_70 rfl (⟨rfl, F1, _, A1, ha, hf, hI1⟩)
    · cases c15
set_option maxRecDepth 100000 in
set_option maxHeartbeats 4000000 in
theorem tM_time {l : Launch} {D : va_G} {aa : Nat → ClassId} {b0 : Nat} {h : mm_H} {o : Nat} {F : Nat → Int32} {G : Nat → Int64} {A : Nat → Nat → Int32} {B : Nat → Nat → Int64} {s : aS} {n : Nat} {i w : Nat} {y : gR} (ha : rm_at o F G A B h) (hW : WF s) (hI : RI s F A B) (hn : n < aNv s) (hw : w < 2) (hN : (aR s n).length ≤ 1000) (hL0 : 0 < (aR s n).length) (hy : (aR s n)[aPk s n]? = some y) (hi : i ≤ aSz s n) : mm_V (zz_K l D aa b0) 10 yX12_time cX12_time 5 (some .long) 0 [(0, .ref (o)), (1, .int (nI (n))), (2, .int (nI (i))), (3, .int (nI (w)))] [] h 0 0 (fun r h' => r = some (.long (lN (if w = 0 then (aT s n y i).1 else (aT s n y i).2))) ∧ ∃ (F' : Nat → Int32) (G' : Nat → Int64) (A' : Nat → Nat → Int32), rm_at o F' G' A' B h' ∧ rm_fr o h h' ∧ RI (s) F' A' B) := by
  have hf : rm_fr o h h := rm_fr.rf
  have hn6 : n < 6 := by have := hW.1.1; omega
  have hvok := hW.2.1 n hn6
  have hsz24 : aSz s n ≤ 24 := hvok.1.2
  obtain ⟨⟨v1, w1⟩, ⟨v2, w2⟩, ⟨v3, w3⟩, ⟨v4, w4⟩, v5, w5⟩ := hI.1.2 n hn6
  have hsz24b := hsz24
  refine mm_aload_n dX12_time_0 rfl 0 rfl ?_
  refine mm_iload_n dX12_time_1 rfl 1 rfl ?_
  refine rm_callVr (As := [.int (nI (n))]) (rest := []) (d2 := 1) dX12_time_2 ha zc_isVoice zc_isVoice_s rfl rfl rfl (Nat.le_of_ble_eq_true rfl) (Nat.le_of_ble_eq_true rfl) (by decide) (tM_isVoice ha hW hI (nI_inb hn (by have := hW.1.1; omega))) ?_
  refine mn_ifB_eq (tgt := 18) dX12_time_5 (by decide) (fun c5 => ?_) (fun c5 => ?_)
  · cases c5
  · refine mm_iload_n dX12_time_8 rfl 3 rfl ?_
    refine mm_i2l dX12_time_9 ?_
    refine mm_lconst (v := lN 0) dX12_time_10 (by decide) ?_
    refine mm_lconst (v := lN 1) dX12_time_11 (by decide) ?_
    refine rm_callSr (As := [.long ((nI (w)).toInt64), .long (lN (0)), .long (lN (1))]) (rest := []) (d2 := 0) dX12_time_12 zc_isIn rfl rfl (Nat.le_of_ble_eq_true rfl) (Nat.le_of_ble_eq_true rfl) (by decide) (tm_isIn _ _ _) ?_
    refine mn_top (u := .int (nI (Bool.toNat (true)))) (congrArg Value.int (in_t (a := 0) (b := 1) (by decide) (by decide) (by omega) (by omega) ((nI_inb hw (by decide)).imp id (fun z => by omega)))) ?_
    refine mn_ifB_ne (tgt := 22) dX12_time_15 (by decide) (fun c15 => ?_) (fun c15 => ?_)
    · refine mm_aload_n dX12_time_22 rfl 0 rfl ?_
      refine mm_iload_n dX12_time_23 rfl 1 rfl ?_
      refine mm_aload_n dX12_time_24 rfl 0 rfl ?_
      refine rm_getA 5 dX12_time_25 ha zf_pickedOf (by decide) rfl ?_
      refine mm_iload_n dX12_time_28 rfl 1 rfl ?_
      refine rm_iald (k := 5) dX12_time_29 ha rfl rfl rfl (show n < 6 from (by omega)) ?_
      refine mn_top (u := .int (nI (aPk s n))) (congrArg Value.int (v5)) ?_
      refine rm_callV (As := [.int (nI (n)), .int (nI (aPk s n))]) (rest := []) (d2 := 9) dX12_time_30 ha zc_find zc_find_s rfl rfl rfl (Nat.le_of_ble_eq_true rfl) (Nat.le_of_ble_eq_true rfl) (by decide) (tM_find ha hW hI hn hN (pk_ltL hW hn6 hL0)) (fun r h1 hq => ?_)
      obtain ⟨q, y2, rfl, hq, hy2, F1, A1, ha, hf', hI1, hfr, hvl, h42⟩ := hq
      have hf := hf.tr hf'
      have ey : y = y2 := Option.some.inj (hy.symm.trans hy2)
      subst ey
      obtain ⟨⟨v1, w1⟩, ⟨v2, w2⟩, ⟨v3, w3⟩, ⟨v4, w4⟩, v5, w5⟩ := hI1.1.2 n hn6
      have hsy := hI1.2.1
      refine mm_istore (L' := [(4, .int (nI (q))), (0, .ref (o)), (1, .int (nI (n))), (2, .int (nI (i))), (3, .int (nI (w)))]) dX12_time_33 (by decide) rfl ?_
      refine mm_iload dX12_time_35 0 rfl ?_
      refine mn_if_lt (tgt := 56) dX12_time_37 (by decide) (by omega) ?_
      refine mm_iload_n dX12_time_40 rfl 3 rfl ?_
      refine mm_i2l dX12_time_41 ?_
      refine mm_lconst (v := lN 0) dX12_time_42 (by decide) ?_
      refine mm_aload_n dX12_time_43 rfl 1 rfl ?_
      refine rm_getA 2 dX12_time_44 ha zf_sizeOf (by decide) rfl ?_
      refine mm_iload_n dX12_time_47 rfl 2 rfl ?_
      refine rm_iald (k := 2) dX12_time_48 ha rfl rfl rfl (show n < 6 from (by omega)) ?_
      refine mn_top (u := .int (nI (aSz s n))) (congrArg Value.int (v2)) ?_
      refine mm_i2l dX12_time_49 ?_
      refine rm_callSr (As := [.long ((nI (i)).toInt64), .long (lN (0)), .long ((nI (aSz s n)).toInt64)]) (rest := []) (d2 := 0) dX12_time_50 zc_isIn rfl rfl (Nat.le_of_ble_eq_true rfl) (Nat.le_of_ble_eq_true rfl) (by decide) (tm_isIn _ _ _) ?_
      refine mn_top (u := .int (nI (Bool.toNat (true)))) (congrArg Value.int (in_t (a := 0) (b := (aSz s n : Int)) (by decide) ((lN_i2l (by omega)).symm.trans (in_n (by omega))) (by omega) (by omega) (by rw [nI_toInt (by omega)]; omega))) ?_
      refine mn_ifB_ne (tgt := 71) dX12_time_53 (by decide) (fun c53 => ?_) (fun c53 => ?_)
      · refine mm_aload_n dX12_time_71 rfl 1 rfl ?_
        refine mm_iload_n dX12_time_72 rfl 2 rfl ?_
        refine mm_iload dX12_time_73 0 rfl ?_
        refine mm_iload_n dX12_time_75 rfl 3 rfl ?_
        refine rm_callV (As := [.int (nI (n)), .int (nI (q)), .int (nI (i))]) (rest := []) (d2 := 2) dX12_time_76 ha zc_findTime zc_findTime_s rfl rfl rfl (Nat.le_of_ble_eq_true rfl) (Nat.le_of_ble_eq_true rfl) (by decide) (tM_findTime (m := i) (V := aV y) (ua := fun i => aUa s (24 * n + i)) (da := fun i => aDa s (24 * n + i)) ha hn6 hq (by omega) (fun i hi => hvl i (by omega)) (fun i hi => (hsy (24 * n + i) (by omega)).2.2.2.2.2.1) (fun i hi => (hsy (24 * n + i) (by omega)).2.2.2.2.1.1) (fun i hi => a_sz hW hn6 hy i (by omega)) (fun i hi => a_u1 hW hn6 i (by omega))) (fun r h1 hq => ?_)
        obtain ⟨rfl, G2, ha, hf', h44, h45⟩ := hq
        have hf := hf.tr hf'
        refine mm_iload_n dX12_time_79 rfl 4 rfl ?_
        refine mn_if_ne (tgt := 90) dX12_time_80 (by decide) (by omega) (fun c80 => ?_) (fun c80 => ?_)
        · refine mm_aload_n dX12_time_90 rfl 1 rfl ?_
          refine rm_getL 45 dX12_time_91 ha zf_below (by decide) rfl rfl ?_
          refine mn_top (u := .long (lN ((aT s n y (i)).2))) (congrArg Value.long (h45)) ?_
          exact mm_lret dX12_time_94 rfl (⟨by rw [if_neg c80], F1, G2, A1, ha, hf, hI1⟩)
        · refine mm_aload_n dX12_time_83 rfl 1 rfl ?_
          refine rm_getL 44 dX12_time_84 ha zf_above (by decide) rfl rfl ?_
          refine mn_top (u := .long (lN ((aT s n y (i)).1))) (congrArg Value.long (h44)) ?_
          refine mm_goto (tgt := 94) dX12_time_87 (by decide) ?_
          exact mm_lret dX12_time_94 rfl (⟨by rw [if_pos c80], F1, G2, A1, ha, hf, hI1⟩)
      · cases c53
    · cases c15
set_option maxRecDepth 100000 in
set_option maxHeartbeats 4000000 in
theorem tM_atB {l : Launch} {D : va_G} {aa : Nat → ClassId} {b0 : Nat} {h : mm_H} {o : Nat} {F : Nat → Int32} {G : Nat → Int64} {A : Nat → Nat → Int32} {B : Nat → Nat → Int64} {s : aS} {n : Nat} {u d : Int32} (ha : rm_at o F G A B h) (hW : WF s) (hI : RI s F A B) (hn : n < aNv s) (hb : u < 0 ∨ d < nI 1) : mm_V (zz_K l D aa b0) 10 yX12_at cX12_at 8 (some .int) 0 [(0, .ref (o)), (1, .int (nI (n))), (2, .int (u)), (3, .int (d))] [] h 0 0 (fun r h' => h' = h ∧ r = some (.int (-2))) := by
  have hf : rm_fr o h h := rm_fr.rf
  have hn6 : n < 6 := by have := hW.1.1; omega
  have hvok := hW.2.1 n hn6
  have hsz24 : aSz s n ≤ 24 := hvok.1.2
  obtain ⟨⟨v1, w1⟩, ⟨v2, w2⟩, ⟨v3, w3⟩, ⟨v4, w4⟩, v5, w5⟩ := hI.1.2 n hn6
  refine mm_aload_n dX12_at_0 rfl 0 rfl ?_
  refine mm_iload_n dX12_at_1 rfl 1 rfl ?_
  refine rm_callVr (As := [.int (nI (n))]) (rest := []) (d2 := 1) dX12_at_2 ha zc_isVoice zc_isVoice_s rfl rfl rfl (Nat.le_of_ble_eq_true rfl) (Nat.le_of_ble_eq_true rfl) (by decide) (tM_isVoice ha hW hI (nI_inb hn (by have := hW.1.1; omega))) ?_
  refine mn_ifB_eq (tgt := 17) dX12_at_5 (by decide) (fun c5 => ?_) (fun c5 => ?_)
  · cases c5
  · refine mm_iload_n dX12_at_8 rfl 2 rfl ?_
    refine mm_if_lt (tgt := 17) dX12_at_9 (by decide) (fun c9 => ?_) (fun c9 => ?_)
    · refine mm_bipush (v := (-2)) dX12_at_17 (by decide) ?_
      exact mm_iret dX12_at_19 rfl (⟨rfl, rfl⟩)
    · refine mm_iload_n dX12_at_12 rfl 3 rfl ?_
      refine mm_iconst (v := nI 1) dX12_at_13 (by decide) ?_
      refine mm_icmp_ge (tgt := 20) dX12_at_14 (by decide) (fun c14 => ?_) (fun c14 => ?_)
      · exact hb.elim (fun z => absurd z c9) (fun z => absurd c14 (i32_nle z))
      · refine mm_bipush (v := (-2)) dX12_at_17 (by decide) ?_
        exact mm_iret dX12_at_19 rfl (⟨rfl, rfl⟩)
set_option maxRecDepth 100000 in
set_option maxHeartbeats 4000000 in
theorem tM_atR {l : Launch} {D : va_G} {aa : Nat → ClassId} {b0 : Nat} {h : mm_H} {o : Nat} {F : Nat → Int32} {G : Nat → Int64} {A : Nat → Nat → Int32} {B : Nat → Nat → Int64} {s : aS} {n : Nat} {u d : Nat} (ha : rm_at o F G A B h) (hW : WF s) (hI : RI s F A B) (hn : n < aNv s) (hu : u < 2 ^ 31) (hd : 0 < d ∧ d < 2 ^ 31) (hr0 : pfA (aR s n).length ≠ 0) : mm_V (zz_K l D aa b0) 10 yX12_at cX12_at 8 (some .int) 0 [(0, .ref (o)), (1, .int (nI (n))), (2, .int (nI (u))), (3, .int (nI (d)))] [] h 0 0 (fun r h' => r = some (.int (pfA (aR s n).length)) ∧ ∃ (F' : Nat → Int32) (G' : Nat → Int64) (A' : Nat → Nat → Int32), rm_at o F' G' A' B h' ∧ rm_fr o h h' ∧ RI (s) F' A' B) := by
  have hf : rm_fr o h h := rm_fr.rf
  have hn6 : n < 6 := by have := hW.1.1; omega
  have hvok := hW.2.1 n hn6
  have hsz24 : aSz s n ≤ 24 := hvok.1.2
  obtain ⟨⟨v1, w1⟩, ⟨v2, w2⟩, ⟨v3, w3⟩, ⟨v4, w4⟩, v5, w5⟩ := hI.1.2 n hn6
  refine mm_aload_n dX12_at_0 rfl 0 rfl ?_
  refine mm_iload_n dX12_at_1 rfl 1 rfl ?_
  refine rm_callVr (As := [.int (nI (n))]) (rest := []) (d2 := 1) dX12_at_2 ha zc_isVoice zc_isVoice_s rfl rfl rfl (Nat.le_of_ble_eq_true rfl) (Nat.le_of_ble_eq_true rfl) (by decide) (tM_isVoice ha hW hI (nI_inb hn (by have := hW.1.1; omega))) ?_
  refine mn_ifB_eq (tgt := 17) dX12_at_5 (by decide) (fun c5 => ?_) (fun c5 => ?_)
  · cases c5
  · refine mm_iload_n dX12_at_8 rfl 2 rfl ?_
    refine mn_if_lt (tgt := 17) dX12_at_9 (by decide) (by omega) ?_
    refine mm_iload_n dX12_at_12 rfl 3 rfl ?_
    refine mm_iconst (v := nI 1) dX12_at_13 (by decide) ?_
    refine mn_icmp_ge (tgt := 20) dX12_at_14 (by decide) (by omega) (by omega) (fun c14 => ?_) (fun c14 => ?_)
    · refine mm_aload_n dX12_at_20 rfl 0 rfl ?_
      refine mm_iload_n dX12_at_21 rfl 1 rfl ?_
      refine mm_aload_n dX12_at_22 rfl 0 rfl ?_
      refine rm_getA 5 dX12_at_23 ha zf_pickedOf (by decide) rfl ?_
      refine mm_iload_n dX12_at_26 rfl 1 rfl ?_
      refine rm_iald (k := 5) dX12_at_27 ha rfl rfl rfl (show n < 6 from (by omega)) ?_
      refine mn_top (u := .int (nI (aPk s n))) (congrArg Value.int (v5)) ?_
      refine rm_callV (As := [.int (nI (n)), .int (nI (aPk s n))]) (rest := []) (d2 := 9) dX12_at_28 ha zc_find zc_find_s rfl rfl rfl (Nat.le_of_ble_eq_true rfl) (Nat.le_of_ble_eq_true rfl) (by decide) (tM_findR ha hW hI hn (by rw [pf_rf hvok.2.2.2.2.2.2]; exact hr0)) (fun r h1 hq => ?_)
      obtain ⟨rfl, F1, A1, ha, hf', hI1⟩ := hq
      have hf := hf.tr hf'
      rw [pf_rf hvok.2.2.2.2.2.2]
      refine mm_istore (L' := [(4, .int (pfA (aR s n).length)), (0, .ref (o)), (1, .int (nI (n))), (2, .int (nI (u))), (3, .int (nI (d)))]) dX12_at_31 (by decide) rfl ?_
      refine mm_iload dX12_at_33 0 rfl ?_
      refine mm_if_ge (tgt := 41) dX12_at_35 (by decide) (fun c35 => ?_) (fun c35 => ?_)
      · exact absurd (pfA_neg hr0) (Int32.not_lt.mpr c35)
      · refine mm_iload dX12_at_38 0 rfl ?_
        exact mm_iret dX12_at_40 rfl (⟨rfl, F1, _, A1, ha, hf, hI1⟩)
    · omega
set_option maxRecDepth 100000 in
set_option maxHeartbeats 4000000 in
theorem tM_at {l : Launch} {D : va_G} {aa : Nat → ClassId} {b0 : Nat} {h : mm_H} {o : Nat} {F : Nat → Int32} {G : Nat → Int64} {A : Nat → Nat → Int32} {B : Nat → Nat → Int64} {s : aS} {n : Nat} {u d : Nat} {y : gR} (ha : rm_at o F G A B h) (hW : WF s) (hI : RI s F A B) (hn : n < aNv s) (hu : u < 2 ^ 31) (hd : 0 < d ∧ d < 2 ^ 31) (hN : (aR s n).length ≤ 1000) (hL0 : 0 < (aR s n).length) (hy : (aR s n)[aPk s n]? = some y) : mm_V (zz_K l D aa b0) 10 yX12_at cX12_at 8 (some .int) 0 [(0, .ref (o)), (1, .int (nI (n))), (2, .int (nI (u))), (3, .int (nI (d)))] [] h 0 0 (fun r h' => r = some (.int (atS (aT s n y) u d (aSz s n) 0)) ∧ ∃ (F' : Nat → Int32) (G' : Nat → Int64) (A' : Nat → Nat → Int32), rm_at o F' G' A' B h' ∧ rm_fr o h h' ∧ RI (s) F' A' B) := by
  have hf : rm_fr o h h := rm_fr.rf
  have hn6 : n < 6 := by have := hW.1.1; omega
  have hvok := hW.2.1 n hn6
  have hsz24 : aSz s n ≤ 24 := hvok.1.2
  obtain ⟨⟨v1, w1⟩, ⟨v2, w2⟩, ⟨v3, w3⟩, ⟨v4, w4⟩, v5, w5⟩ := hI.1.2 n hn6
  refine mm_aload_n dX12_at_0 rfl 0 rfl ?_
  refine mm_iload_n dX12_at_1 rfl 1 rfl ?_
  refine rm_callVr (As := [.int (nI (n))]) (rest := []) (d2 := 1) dX12_at_2 ha zc_isVoice zc_isVoice_s rfl rfl rfl (Nat.le_of_ble_eq_true rfl) (Nat.le_of_ble_eq_true rfl) (by decide) (tM_isVoice ha hW hI (nI_inb hn (by have := hW.1.1; omega))) ?_
  refine mn_ifB_eq (tgt := 17) dX12_at_5 (by decide) (fun c5 => ?_) (fun c5 => ?_)
  · cases c5
  · refine mm_iload_n dX12_at_8 rfl 2 rfl ?_
    refine mn_if_lt (tgt := 17) dX12_at_9 (by decide) (by omega) ?_
    refine mm_iload_n dX12_at_12 rfl 3 rfl ?_
    refine mm_iconst (v := nI 1) dX12_at_13 (by decide) ?_
    refine mn_icmp_ge (tgt := 20) dX12_at_14 (by decide) (by omega) (by omega) (fun c14 => ?_) (fun c14 => ?_)
    · refine mm_aload_n dX12_at_20 rfl 0 rfl ?_
      refine mm_iload_n dX12_at_21 rfl 1 rfl ?_
      refine mm_aload_n dX12_at_22 rfl 0 rfl ?_
      refine rm_getA 5 dX12_at_23 ha zf_pickedOf (by decide) rfl ?_
      refine mm_iload_n dX12_at_26 rfl 1 rfl ?_
      refine rm_iald (k := 5) dX12_at_27 ha rfl rfl rfl (show n < 6 from (by omega)) ?_
      refine mn_top (u := .int (nI (aPk s n))) (congrArg Value.int (v5)) ?_
      refine rm_callV (As := [.int (nI (n)), .int (nI (aPk s n))]) (rest := []) (d2 := 9) dX12_at_28 ha zc_find zc_find_s rfl rfl rfl (Nat.le_of_ble_eq_true rfl) (Nat.le_of_ble_eq_true rfl) (by decide) (tM_find ha hW hI hn hN (pk_ltL hW hn6 hL0)) (fun r h1 hq => ?_)
      obtain ⟨q, y2, rfl, hq, hy2, F1, A1, ha, hf', hI1, hfr, hvl, h42⟩ := hq
      have hf := hf.tr hf'
      have ey : y = y2 := Option.some.inj (hy.symm.trans hy2)
      subst ey
      obtain ⟨⟨v1, w1⟩, ⟨v2, w2⟩, ⟨v3, w3⟩, ⟨v4, w4⟩, v5, w5⟩ := hI1.1.2 n hn6
      have hsy := hI1.2.1
      refine mm_istore (L' := [(4, .int (nI (q))), (0, .ref (o)), (1, .int (nI (n))), (2, .int (nI (u))), (3, .int (nI (d)))]) dX12_at_31 (by decide) rfl ?_
      refine mm_iload dX12_at_33 0 rfl ?_
      refine mn_if_ge (tgt := 41) dX12_at_35 (by decide) (by omega) ?_
      refine mm_iconst (v := (-1)) dX12_at_41 (by decide) ?_
      refine mm_istore (L' := [(5, .int ((-1))), (4, .int (nI (q))), (0, .ref (o)), (1, .int (nI (n))), (2, .int (nI (u))), (3, .int (nI (d)))]) dX12_at_42 (by decide) rfl ?_
      refine mm_iconst (v := nI 0) dX12_at_44 (by decide) ?_
      refine mm_istore (L' := [(6, .int (nI (0))), (5, .int ((-1))), (4, .int (nI (q))), (0, .ref (o)), (1, .int (nI (n))), (2, .int (nI (u))), (3, .int (nI (d)))]) dX12_at_45 (by decide) rfl ?_
      refine mn_sub [0, 1, 2, 3, 4, 5, 6] rfl ?_
      suffices lp : ∀ (m i : Nat) (G1 : Nat → Int64) (h2 : mm_H), i + m = aSz s n → rm_at o F1 G1 A1 B h2 → rm_fr o h h2 → mm_V (zz_K l D aa b0) 10 yX12_at cX12_at 8 (some .int) 47 [(6, .int (nI (i))), (5, .int (atL (aT s n y) u d (fun i => aSo s (24 * n + i)) i)), (4, .int (nI (q))), (0, .ref (o)), (1, .int (nI (n))), (2, .int (nI (u))), (3, .int (nI (d)))] [] h2 0 0 (fun r h' => r = some (.int (atS (aT s n y) u d (aSz s n) 0)) ∧ ∃ (F' : Nat → Int32) (G' : Nat → Int64) (A' : Nat → Nat → Int32), rm_at o F' G' A' B h' ∧ rm_fr o h h' ∧ RI (s) F' A' B) from lp (aSz s n) 0 _ _ (by omega) ha hf
      intro m
      induction m with
      | zero =>
        intro i G1 h2 him ha hf
        refine mm_iload dX12_at_47 0 rfl ?_
        refine mm_aload_n dX12_at_49 rfl 3 rfl ?_
        refine rm_getA 2 dX12_at_50 ha zf_sizeOf (by decide) rfl ?_
        refine mm_iload_n dX12_at_53 rfl 4 rfl ?_
        refine rm_iald (k := 2) dX12_at_54 ha rfl rfl rfl (show n < 6 from (by omega)) ?_
        refine mn_top (u := .int (nI (aSz s n))) (congrArg Value.int (v2)) ?_
        refine mn_icmp_ge (tgt := 157) dX12_at_55 (by decide) (by omega) (by omega) (fun c55 => ?_) (fun c55 => ?_)
        · have e : i = aSz s n := by omega
          subst e
          refine mm_iload dX12_at_157 1 rfl ?_
          exact mm_iret dX12_at_159 rfl (⟨by rw [aT_at hW hn6 hy], F1, G1, A1, ha, hf, hI1⟩)
        · omega
      | succ m ih =>
        intro i G1 h2 him ha hf
        refine mm_iload dX12_at_47 0 rfl ?_
        refine mm_aload_n dX12_at_49 rfl 3 rfl ?_
        refine rm_getA 2 dX12_at_50 ha zf_sizeOf (by decide) rfl ?_
        refine mm_iload_n dX12_at_53 rfl 4 rfl ?_
        refine rm_iald (k := 2) dX12_at_54 ha rfl rfl rfl (show n < 6 from (by omega)) ?_
        refine mn_top (u := .int (nI (aSz s n))) (congrArg Value.int (v2)) ?_
        refine mn_icmp_ge (tgt := 157) dX12_at_55 (by decide) (by omega) (by omega) (fun c55 => ?_) (fun c55 => ?_)
        · omega
        · have b1 := a_tb hW hn6 hy (i := i) (by omega)
          have b2 := a_tb hW hn6 hy (i := i + 1) (by omega)
          obtain ⟨⟨s1, u1⟩, -⟩ := hsy (24 * n + i) (by omega)
          refine mm_aload_n dX12_at_58 rfl 3 rfl ?_
          refine mm_iload_n dX12_at_59 rfl 4 rfl ?_
          refine mm_iload dX12_at_60 2 rfl ?_
          refine mm_iload dX12_at_62 0 rfl ?_
          refine rm_callV (As := [.int (nI (n)), .int (nI (q)), .int (nI (i))]) (rest := []) (d2 := 2) dX12_at_64 ha zc_findTime zc_findTime_s rfl rfl rfl (Nat.le_of_ble_eq_true rfl) (Nat.le_of_ble_eq_true rfl) (by decide) (tM_findTime (m := i) (V := aV y) (ua := fun i => aUa s (24 * n + i)) (da := fun i => aDa s (24 * n + i)) ha hn6 hq (by omega) (fun i hi => hvl i (by omega)) (fun i hi => (hsy (24 * n + i) (by omega)).2.2.2.2.2.1) (fun i hi => (hsy (24 * n + i) (by omega)).2.2.2.2.1.1) (fun i hi => a_sz hW hn6 hy i (by omega)) (fun i hi => a_u1 hW hn6 i (by omega))) (fun r h1 hq => ?_)
          obtain ⟨rfl, G2, ha, hf', h44, h45⟩ := hq
          have hf := hf.tr hf'
          refine mm_aload_n dX12_at_67 rfl 3 rfl ?_
          refine rm_getL 44 dX12_at_68 ha zf_above (by decide) rfl rfl ?_
          refine mn_top (u := .long (lN ((aT s n y (i)).1))) (congrArg Value.long (h44)) ?_
          refine mm_aload_n dX12_at_71 rfl 3 rfl ?_
          refine rm_getL 45 dX12_at_72 ha zf_below (by decide) rfl rfl ?_
          refine mn_top (u := .long (lN ((aT s n y (i)).2))) (congrArg Value.long (h45)) ?_
          refine mm_iload_n dX12_at_75 rfl 5 rfl ?_
          refine mn_i2l dX12_at_76 (by omega) ?_
          refine mm_iload_n dX12_at_77 rfl 6 rfl ?_
          refine mn_i2l dX12_at_78 (by omega) ?_
          refine rm_callSr (As := [.long (lN ((aT s n y (i)).1)), .long (lN ((aT s n y (i)).2)), .long (lN (u)), .long (lN (d))]) (rest := []) (d2 := 0) dX12_at_79 zc_compare rfl rfl (Nat.le_of_ble_eq_true rfl) (Nat.le_of_ble_eq_true rfl) (by decide) (tM_compare b1.1 b1.2.1 (by omega) (by omega) b1.2.2 hd.1) ?_
          refine mm_if_gt (tgt := 89) dX12_at_82 (by decide) (fun c82 => ?_) (fun c82 => ?_)
          · refine mm_iconst (v := nI 0) dX12_at_89 (by decide) ?_
            have hbg : ¬ ((aT s n y i).1 * d ≤ u * (aT s n y i).2) := fun q => by have := cm3_gt0.mp c82; omega
            refine mm_istore (L' := [(7, .int (nI (0))), (6, .int (nI (i))), (5, .int (atL (aT s n y) u d (fun i => aSo s (24 * n + i)) i)), (4, .int (nI (q))), (0, .ref (o)), (1, .int (nI (n))), (2, .int (nI (u))), (3, .int (nI (d)))]) dX12_at_90 (by decide) rfl ?_
            refine mm_aload_n dX12_at_92 rfl 4 rfl ?_
            refine mm_iload_n dX12_at_93 rfl 5 rfl ?_
            refine mm_iload dX12_at_94 3 rfl ?_
            refine mm_iload dX12_at_96 1 rfl ?_
            refine mm_iconst (v := nI 1) dX12_at_98 (by decide) ?_
            refine mn_iadd dX12_at_99 ?_
            refine rm_callV (As := [.int (nI (n)), .int (nI (q)), .int (nI ((i) + (1)))]) (rest := []) (d2 := 2) dX12_at_100 ha zc_findTime zc_findTime_s rfl rfl rfl (Nat.le_of_ble_eq_true rfl) (Nat.le_of_ble_eq_true rfl) (by decide) (tM_findTime (m := i + 1) (V := aV y) (ua := fun i => aUa s (24 * n + i)) (da := fun i => aDa s (24 * n + i)) ha hn6 hq (by omega) (fun i hi => hvl i (by omega)) (fun i hi => (hsy (24 * n + i) (by omega)).2.2.2.2.2.1) (fun i hi => (hsy (24 * n + i) (by omega)).2.2.2.2.1.1) (fun i hi => a_sz hW hn6 hy i (by omega)) (fun i hi => a_u1 hW hn6 i (by omega))) (fun r h1 hq => ?_)
            obtain ⟨rfl, G3, ha, hf', h44, h45⟩ := hq
            have hf := hf.tr hf'
            refine mm_iload dX12_at_103 0 rfl ?_
            refine mn_if_eq (tgt := 147) dX12_at_105 (by decide) (by omega) (fun c105 => ?_) (fun c105 => ?_)
            · refine mm_iload dX12_at_147 2 rfl ?_
              have en : atL (aT s n y) u d (fun i => aSo s (24 * n + i)) (i + 1) = atL (aT s n y) u d (fun i => aSo s (24 * n + i)) i := if_neg (fun z => hbg z.1.1)
              refine mn_top (u := .int (atL (aT s n y) u d (fun i => aSo s (24 * n + i)) (i + 1))) (congrArg Value.int (en.symm)) ?_
              refine mm_istore (L' := [(5, .int (atL (aT s n y) u d (fun i => aSo s (24 * n + i)) (i + 1))), (7, .int (nI (0))), (6, .int (nI (i))), (4, .int (nI (q))), (0, .ref (o)), (1, .int (nI (n))), (2, .int (nI (u))), (3, .int (nI (d)))]) dX12_at_149 (by decide) rfl ?_
              refine mn_iinc (m := 1) (L' := [(6, .int (nI (i + 1))), (5, .int (atL (aT s n y) u d (fun i => aSo s (24 * n + i)) (i + 1))), (7, .int (nI (0))), (4, .int (nI (q))), (0, .ref (o)), (1, .int (nI (n))), (2, .int (nI (u))), (3, .int (nI (d)))]) dX12_at_151 (by decide) 2 rfl (by decide) rfl ?_
              refine mm_goto (tgt := 47) dX12_at_154 (by decide) ?_
              refine mn_sub [0, 1, 3, 4, 5, 6, 7] rfl ?_
              exact ih (i + 1) _ _ (by omega) ha hf
            · exact absurd rfl c105
          · refine mm_iconst (v := nI 1) dX12_at_85 (by decide) ?_
            refine mm_goto (tgt := 90) dX12_at_86 (by decide) ?_
            have hbg : ((aT s n y i).1 * d ≤ u * (aT s n y i).2) := cm3_le.mp (Int32.not_lt.mp c82)
            refine mm_istore (L' := [(7, .int (nI (1))), (6, .int (nI (i))), (5, .int (atL (aT s n y) u d (fun i => aSo s (24 * n + i)) i)), (4, .int (nI (q))), (0, .ref (o)), (1, .int (nI (n))), (2, .int (nI (u))), (3, .int (nI (d)))]) dX12_at_90 (by decide) rfl ?_
            refine mm_aload_n dX12_at_92 rfl 4 rfl ?_
            refine mm_iload_n dX12_at_93 rfl 5 rfl ?_
            refine mm_iload dX12_at_94 3 rfl ?_
            refine mm_iload dX12_at_96 1 rfl ?_
            refine mm_iconst (v := nI 1) dX12_at_98 (by decide) ?_
            refine mn_iadd dX12_at_99 ?_
            refine rm_callV (As := [.int (nI (n)), .int (nI (q)), .int (nI ((i) + (1)))]) (rest := []) (d2 := 2) dX12_at_100 ha zc_findTime zc_findTime_s rfl rfl rfl (Nat.le_of_ble_eq_true rfl) (Nat.le_of_ble_eq_true rfl) (by decide) (tM_findTime (m := i + 1) (V := aV y) (ua := fun i => aUa s (24 * n + i)) (da := fun i => aDa s (24 * n + i)) ha hn6 hq (by omega) (fun i hi => hvl i (by omega)) (fun i hi => (hsy (24 * n + i) (by omega)).2.2.2.2.2.1) (fun i hi => (hsy (24 * n + i) (by omega)).2.2.2.2.1.1) (fun i hi => a_sz hW hn6 hy i (by omega)) (fun i hi => a_u1 hW hn6 i (by omega))) (fun r h1 hq => ?_)
            obtain ⟨rfl, G3, ha, hf', h44, h45⟩ := hq
            have hf := hf.tr hf'
            refine mm_iload dX12_at_103 0 rfl ?_
            refine mn_if_eq (tgt := 147) dX12_at_105 (by decide) (by omega) (fun c105 => ?_) (fun c105 => ?_)
            · exact absurd c105 (by decide)
            · refine mm_iload_n dX12_at_108 rfl 6 rfl ?_
              refine mn_i2l dX12_at_109 (by omega) ?_
              refine mm_iload_n dX12_at_110 rfl 7 rfl ?_
              refine mn_i2l dX12_at_111 (by omega) ?_
              refine mm_aload_n dX12_at_112 rfl 4 rfl ?_
              refine rm_getL 44 dX12_at_113 ha zf_above (by decide) rfl rfl ?_
              refine mn_top (u := .long (lN ((aT s n y (i + 1)).1))) (congrArg Value.long (h44)) ?_
              refine mm_aload_n dX12_at_116 rfl 4 rfl ?_
              refine rm_getL 45 dX12_at_117 ha zf_below (by decide) rfl rfl ?_
              refine mn_top (u := .long (lN ((aT s n y (i + 1)).2))) (congrArg Value.long (h45)) ?_
              refine rm_callSr (As := [.long (lN (u)), .long (lN (d)), .long (lN ((aT s n y (i + 1)).1)), .long (lN ((aT s n y (i + 1)).2))]) (rest := []) (d2 := 0) dX12_at_120 zc_compare rfl rfl (Nat.le_of_ble_eq_true rfl) (Nat.le_of_ble_eq_true rfl) (by decide) (tM_compare (by omega) (by omega) b2.1 b2.2.1 hd.1 b2.2.2) ?_
              refine mm_if_ge (tgt := 147) dX12_at_123 (by decide) (fun c123 => ?_) (fun c123 => ?_)
              · refine mm_iload dX12_at_147 2 rfl ?_
                have en : atL (aT s n y) u d (fun i => aSo s (24 * n + i)) (i + 1) = atL (aT s n y) u d (fun i => aSo s (24 * n + i)) i := if_neg (fun z => absurd (cm3_lt0.mpr z.1.2) (Int32.not_lt.mpr c123))
                refine mn_top (u := .int (atL (aT s n y) u d (fun i => aSo s (24 * n + i)) (i + 1))) (congrArg Value.int (en.symm)) ?_
                refine mm_istore (L' := [(5, .int (atL (aT s n y) u d (fun i => aSo s (24 * n + i)) (i + 1))), (7, .int (nI (1))), (6, .int (nI (i))), (4, .int (nI (q))), (0, .ref (o)), (1, .int (nI (n))), (2, .int (nI (u))), (3, .int (nI (d)))]) dX12_at_149 (by decide) rfl ?_
                refine mn_iinc (m := 1) (L' := [(6, .int (nI (i + 1))), (5, .int (atL (aT s n y) u d (fun i => aSo s (24 * n + i)) (i + 1))), (7, .int (nI (1))), (4, .int (nI (q))), (0, .ref (o)), (1, .int (nI (n))), (2, .int (nI (u))), (3, .int (nI (d)))]) dX12_at_151 (by decide) 2 rfl (by decide) rfl ?_
                refine mm_goto (tgt := 47) dX12_at_154 (by decide) ?_
                refine mn_sub [0, 1, 3, 4, 5, 6, 7] rfl ?_
                exact ih (i + 1) _ _ (by omega) ha hf
              · have hlt := cm3_lt0.mp (Int32.not_le.mp c123)
                refine mm_aload_n dX12_at_126 rfl 4 rfl ?_
                refine rm_getA 6 dX12_at_127 ha zf_sortOf (by decide) rfl ?_
                refine mm_bipush (v := nI 24) dX12_at_130 (by decide) ?_
                refine mm_iload_n dX12_at_132 rfl 5 rfl ?_
                refine mn_imul dX12_at_133 ?_
                refine mm_iload dX12_at_134 1 rfl ?_
                refine mn_iadd dX12_at_136 ?_
                refine rm_iald (k := 6) dX12_at_137 ha rfl rfl rfl (show ((24) * (n)) + (i) < 144 from (by omega)) ?_
                refine mn_top (u := .int (nI (aSo s (24 * n + i)))) (congrArg Value.int (s1)) ?_
                refine mm_iconst (v := nI 3) dX12_at_138 (by decide) ?_
                refine mn_icmp_eq (tgt := 147) dX12_at_139 (by decide) (by omega) (by omega) (fun c139 => ?_) (fun c139 => ?_)
                · refine mm_iload dX12_at_147 2 rfl ?_
                  have en : atL (aT s n y) u d (fun i => aSo s (24 * n + i)) (i + 1) = atL (aT s n y) u d (fun i => aSo s (24 * n + i)) i := if_neg (fun z => z.2 c139)
                  refine mn_top (u := .int (atL (aT s n y) u d (fun i => aSo s (24 * n + i)) (i + 1))) (congrArg Value.int (en.symm)) ?_
                  refine mm_istore (L' := [(5, .int (atL (aT s n y) u d (fun i => aSo s (24 * n + i)) (i + 1))), (7, .int (nI (1))), (6, .int (nI (i))), (4, .int (nI (q))), (0, .ref (o)), (1, .int (nI (n))), (2, .int (nI (u))), (3, .int (nI (d)))]) dX12_at_149 (by decide) rfl ?_
                  refine mn_iinc (m := 1) (L' := [(6, .int (nI (i + 1))), (5, .int (atL (aT s n y) u d (fun i => aSo s (24 * n + i)) (i + 1))), (7, .int (nI (1))), (4, .int (nI (q))), (0, .ref (o)), (1, .int (nI (n))), (2, .int (nI (u))), (3, .int (nI (d)))]) dX12_at_151 (by decide) 2 rfl (by decide) rfl ?_
                  refine mm_goto (tgt := 47) dX12_at_154 (by decide) ?_
                  refine mn_sub [0, 1, 3, 4, 5, 6, 7] rfl ?_
                  exact ih (i + 1) _ _ (by omega) ha hf
                · refine mm_iload dX12_at_142 1 rfl ?_
                  refine mm_goto (tgt := 149) dX12_at_144 (by decide) ?_
                  have en : atL (aT s n y) u d (fun i => aSo s (24 * n + i)) (i + 1) = nI i := if_pos ⟨⟨hbg, hlt⟩, c139⟩
                  refine mn_top (u := .int (atL (aT s n y) u d (fun i => aSo s (24 * n + i)) (i + 1))) (congrArg Value.int (en.symm)) ?_
                  refine mm_istore (L' := [(5, .int (atL (aT s n y) u d (fun i => aSo s (24 * n + i)) (i + 1))), (7, .int (nI (1))), (6, .int (nI (i))), (4, .int (nI (q))), (0, .ref (o)), (1, .int (nI (n))), (2, .int (nI (u))), (3, .int (nI (d)))]) dX12_at_149 (by decide) rfl ?_
                  refine mn_iinc (m := 1) (L' := [(6, .int (nI (i + 1))), (5, .int (atL (aT s n y) u d (fun i => aSo s (24 * n + i)) (i + 1))), (7, .int (nI (1))), (4, .int (nI (q))), (0, .ref (o)), (1, .int (nI (n))), (2, .int (nI (u))), (3, .int (nI (d)))]) dX12_at_151 (by decide) 2 rfl (by decide) rfl ?_
                  refine mm_goto (tgt := 47) dX12_at_154 (by decide) ?_
                  refine mn_sub [0, 1, 3, 4, 5, 6, 7] rfl ?_
                  exact ih (i + 1) _ _ (by omega) ha hf
    · omega
