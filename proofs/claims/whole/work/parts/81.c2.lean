/-! Spans: small methods -/
theorem aft_z {T : Nat → Nat} {a pl : Nat} : ∀ n, (∀ q, q < n → T (a + q) = 0) → aft_ T a pl n = 0
  | 0, _ => rfl
  | n + 1, h => by
    show aft_ T a pl n ||| (if pl.testBit n = true then T (a + n) else 0) = 0
    rw [aft_z n (fun q hq => h q (by omega)), h n (by omega)]
    split <;> rfl
set_option maxRecDepth 100000 in
set_option maxHeartbeats 4000000 in
theorem cs_endsIn {l : Launch} {D : va_G} {aa : Nat → ClassId} {b0 : Nat} {h : mm_H} {o : Nat} {X : Nat → Nat → Int32} {Y : Nat → Nat → Int64} {rl : Option Nat} {tb k p : Nat} {T : Nat → Nat} (ha : cm_at o X Y rl h) (hTA : TA tb) (hT : tm_ X tb 189 T) (hk : k ≤ 7) (hp : p ≤ 27) : mm_V (zz_K l D aa b0) 0 yX7_endsIn cX7_endsIn 4 (some .int) 0 [(0, .ref (o + tb)), (1, .int (nI (k))), (2, .int (nI (p)))] [] h 0 0 (fun rv h' => h' = h ∧ rv = some (.int (nI (if p < 27 ∧ k ≤ 6 then T (k * 27 + p) else 0)))) := by
  refine mm_iload_n dX7_endsIn_0 rfl 1 rfl ?_
  refine mm_bipush (v := nI 27) dX7_endsIn_1 (by decide) ?_
  refine mn_imul dX7_endsIn_3 ?_
  refine mm_iload_n dX7_endsIn_4 rfl 2 rfl ?_
  refine mn_iadd dX7_endsIn_5 ?_
  refine mm_istore_n (L' := [(3, .int (nI (((k) * (27)) + (p)))), (0, .ref (o + tb)), (1, .int (nI (k))), (2, .int (nI (p)))]) dX7_endsIn_6 rfl (by decide) rfl ?_
  refine mm_iload_n dX7_endsIn_7 rfl 3 rfl ?_
  refine mn_if_lt (tgt := 27) dX7_endsIn_8 (by decide) (by omega) ?_
  refine mm_iload_n dX7_endsIn_11 rfl 3 rfl ?_
  refine mm_bipush (v := nI 27) dX7_endsIn_12 (by decide) ?_
  refine mn_icmp_ge (tgt := 27) dX7_endsIn_14 (by decide) (by omega) (by omega) (fun c14 => ?_) (fun c14 => ?_)
  · refine mm_iconst (v := nI 0) dX7_endsIn_27 (by decide) ?_
    refine mm_goto (tgt := 34) dX7_endsIn_28 (by decide) ?_
    exact mm_iret dX7_endsIn_34 rfl (⟨rfl, by first | (rw [if_pos (by omega)]; done) | (rw [if_neg (by omega)]; done) | (rw [if_pos (by omega)]; rfl) | (rw [if_neg (by omega)]; rfl)⟩)
  · refine mm_iload_n dX7_endsIn_17 rfl 0 rfl ?_
    refine mn_if_lt (tgt := 27) dX7_endsIn_18 (by decide) (by omega) ?_
    refine mm_iload_n dX7_endsIn_21 rfl 0 rfl ?_
    refine mm_aload_n dX7_endsIn_22 rfl 1 rfl ?_
    refine cm_alenI dX7_endsIn_23 ha (TA_lt hTA 0 (by decide)) (TA_0 hTA) ?_
    refine mn_icmp_lt (tgt := 31) dX7_endsIn_24 (by decide) (by omega) (by omega) (fun c24 => ?_) (fun c24 => ?_)
    · refine mm_aload_n dX7_endsIn_31 rfl 1 rfl ?_
      refine mm_iload_n dX7_endsIn_32 rfl 0 rfl ?_
      refine cm_iald (i := ((k) * (27)) + (p)) dX7_endsIn_33 ha (TA_lt hTA 0 (by decide)) (TA_0 hTA) (by omega) (by decide) ?_
      refine mn_top (u := .int (nI (T (k * 27 + p)))) (congrArg Value.int (hT.at (j := k * 27 + p) (by omega))) ?_
      exact mm_iret dX7_endsIn_34 rfl (⟨rfl, by first | (rw [if_pos (by omega)]; done) | (rw [if_neg (by omega)]; done) | (rw [if_pos (by omega)]; rfl) | (rw [if_neg (by omega)]; rfl)⟩)
    · refine mm_iconst (v := nI 0) dX7_endsIn_27 (by decide) ?_
      refine mm_goto (tgt := 34) dX7_endsIn_28 (by decide) ?_
      exact mm_iret dX7_endsIn_34 rfl (⟨rfl, by first | (rw [if_pos (by omega)]; done) | (rw [if_neg (by omega)]; done) | (rw [if_pos (by omega)]; rfl) | (rw [if_neg (by omega)]; rfl)⟩)
set_option maxRecDepth 100000 in
set_option maxHeartbeats 4000000 in
theorem cs_startsIn {l : Launch} {D : va_G} {aa : Nat → ClassId} {b0 : Nat} {h : mm_H} {o : Nat} {X : Nat → Nat → Int32} {Y : Nat → Nat → Int64} {rl : Option Nat} {sy k p : Nat} {S : Nat → Nat} (ha : cm_at o X Y rl h) (hSA : SA sy) (hS : tm_ X sy 7 S) (hk : k ≤ 7) (hp : p ≤ 27) : mm_V (zz_K l D aa b0) 0 yX7_startsIn cX7_startsIn 4 (some .int) 0 [(0, .ref (o + 10)), (1, .ref (o + sy)), (2, .int (nI (k))), (3, .int (nI (p)))] [] h 0 0 (fun rv h' => h' = h ∧ rv = some (.int (nI (if k < 7 then S k &&& 1 <<< p else 0)))) := by
  refine mm_iload_n dX7_startsIn_0 rfl 2 rfl ?_
  refine mn_if_lt (tgt := 10) dX7_startsIn_1 (by decide) (by omega) ?_
  refine mm_iload_n dX7_startsIn_4 rfl 2 rfl ?_
  refine mm_aload_n dX7_startsIn_5 rfl 1 rfl ?_
  refine cm_alenI dX7_startsIn_6 ha (SA_lt hSA 0 (by decide)) (SA_0 hSA) ?_
  refine mn_icmp_lt (tgt := 14) dX7_startsIn_7 (by decide) (by omega) (by omega) (fun c7 => ?_) (fun c7 => ?_)
  · refine mm_aload_n dX7_startsIn_14 rfl 1 rfl ?_
    refine mm_iload_n dX7_startsIn_15 rfl 2 rfl ?_
    refine cm_iald (i := k) dX7_startsIn_16 ha (SA_lt hSA 0 (by decide)) (SA_0 hSA) (by omega) (by decide) ?_
    refine mn_top (u := .int (nI (S k))) (congrArg Value.int (hS.at (by omega))) ?_
    refine mm_iconst (v := nI 1) dX7_startsIn_17 (by decide) ?_
    refine mm_iload_n dX7_startsIn_18 rfl 3 rfl ?_
    refine mn_ishl dX7_startsIn_19 (by omega) ?_
    refine mn_iand dX7_startsIn_20 ?_
    exact mm_iret dX7_startsIn_21 rfl (⟨rfl, by first | (rw [if_pos (by omega)]; done) | (rw [if_neg (by omega)]; done) | (rw [if_pos (by omega)]; rfl) | (rw [if_neg (by omega)]; rfl)⟩)
  · refine mm_iconst (v := nI 0) dX7_startsIn_10 (by decide) ?_
    refine mm_goto (tgt := 21) dX7_startsIn_11 (by decide) ?_
    exact mm_iret dX7_startsIn_21 rfl (⟨rfl, by first | (rw [if_pos (by omega)]; done) | (rw [if_neg (by omega)]; done) | (rw [if_pos (by omega)]; rfl) | (rw [if_neg (by omega)]; rfl)⟩)
set_option maxRecDepth 100000 in
set_option maxHeartbeats 4000000 in
theorem cs_before {l : Launch} {D : va_G} {aa : Nat → ClassId} {b0 : Nat} {h : mm_H} {o : Nat} {X : Nat → Nat → Int32} {Y : Nat → Nat → Int64} {rl : Option Nat} {tb k pl sz : Nat} {T : Nat → Nat} (ha : cm_at o X Y rl h) (hTA : TA tb) (hT : tm_ X tb 189 T) (hsz : X 10 10 = nI sz) (hs : sz ≤ 24) (hk : k ≤ 6) (hpl : pl < 2 ^ 31) : mm_V (zz_K l D aa b0) 0 yX7_before cX7_before 7 (some .int) 0 [(0, .ref (o + 10)), (1, .ref (o + tb)), (2, .int (nI (k))), (3, .int (nI (pl)))] [] h 0 0 (fun rv h' => h' = h ∧ rv = some (.int (nI (bef_ T (k * 27) pl sz)))) := by
  have lp : ∀ n p : Nat, p + n = sz → mm_V (zz_K l D aa b0) 0 yX7_before cX7_before 7 (some .int) 12 [(6, .int (nI (p))), (5, .int (nI ((k) * (27)))), (4, .int (nI (bef_ T (k * 27) pl p))), (0, .ref (o + 10)), (1, .ref (o + tb)), (2, .int (nI (k))), (3, .int (nI (pl)))] [] h 0 0 (fun rv h' => h' = h ∧ rv = some (.int (nI (bef_ T (k * 27) pl sz)))) := by
    intro n
    induction n with
    | zero =>
      intro p hn
      refine mm_iload dX7_before_12 0 rfl ?_
      refine mm_aload_n dX7_before_14 rfl 3 rfl ?_
      refine cm_getI dX7_before_15 ha zr_X7_54 (by decide) rfl rfl ?_
      refine mn_top (u := .int (nI (sz))) (congrArg Value.int ((hsz))) ?_
      refine mn_icmp_ge (tgt := 67) dX7_before_18 (by decide) (by omega) (by omega) (fun c18 => ?_) (fun c18 => ?_)
      · refine mm_iload dX7_before_67 2 rfl ?_
        exact mm_iret dX7_before_69 rfl (⟨rfl, by rw [show p = sz from by omega]⟩)
      · omega
    | succ n ih =>
      intro p hn
      refine mm_iload dX7_before_12 0 rfl ?_
      refine mm_aload_n dX7_before_14 rfl 3 rfl ?_
      refine cm_getI dX7_before_15 ha zr_X7_54 (by decide) rfl rfl ?_
      refine mn_top (u := .int (nI (sz))) (congrArg Value.int ((hsz))) ?_
      refine mn_icmp_ge (tgt := 67) dX7_before_18 (by decide) (by omega) (by omega) (fun c18 => ?_) (fun c18 => ?_)
      · omega
      · have hlt : T (k * 27 + p) < 2 ^ 27 := hT.lt (by omega)
        refine mm_iload dX7_before_21 1 rfl ?_
        refine mn_if_lt (tgt := 67) dX7_before_23 (by decide) (by omega) ?_
        refine mm_iload dX7_before_26 1 rfl ?_
        refine mm_iload dX7_before_28 0 rfl ?_
        refine mn_iadd dX7_before_30 ?_
        refine mm_aload_n dX7_before_31 rfl 4 rfl ?_
        refine cm_alenI dX7_before_32 ha (TA_lt hTA 0 (by decide)) (TA_0 hTA) ?_
        refine mn_icmp_ge (tgt := 67) dX7_before_33 (by decide) (by omega) (by omega) (fun c33 => ?_) (fun c33 => ?_)
        · omega
        · refine mm_iload dX7_before_36 2 rfl ?_
          refine mm_aload_n dX7_before_38 rfl 4 rfl ?_
          refine mm_iload dX7_before_39 1 rfl ?_
          refine mm_iload dX7_before_41 0 rfl ?_
          refine mn_iadd dX7_before_43 ?_
          refine cm_iald (i := ((k) * (27)) + (p)) dX7_before_44 ha (TA_lt hTA 0 (by decide)) (TA_0 hTA) (by omega) (by decide) ?_
          refine mn_top (u := .int (nI (T (k * 27 + p)))) (congrArg Value.int (hT.at (j := k * 27 + p) (by omega))) ?_
          refine mm_iload_n dX7_before_45 rfl 6 rfl ?_
          refine mn_iand dX7_before_46 ?_
          refine mn_if_eq (tgt := 57) dX7_before_47 (by decide) (and31 (lt31 hlt)) (fun c47 => ?_) (fun c47 => ?_)
          · refine mm_iconst (v := nI 0) dX7_before_57 (by decide) ?_
            refine mn_ior dX7_before_58 ?_
            refine mn_top (u := .int (nI (bef_ T (k * 27) pl (p + 1)))) (congrArg Value.int (by show nI (_ ||| 0) = nI (bef_ T (k * 27) pl p ||| (if T (k * 27 + p) &&& pl ≠ 0 then 2 ^ p else 0)); rw [if_neg (fun z => z c47)])) ?_
            refine mm_istore (L' := [(4, .int (nI (bef_ T (k * 27) pl (p + 1)))), (6, .int (nI (p))), (5, .int (nI ((k) * (27)))), (0, .ref (o + 10)), (1, .ref (o + tb)), (2, .int (nI (k))), (3, .int (nI (pl)))]) dX7_before_59 (by decide) rfl ?_
            refine mn_iinc (m := 1) (L' := [(6, .int (nI (p + 1))), (4, .int (nI (bef_ T (k * 27) pl (p + 1)))), (5, .int (nI ((k) * (27)))), (0, .ref (o + 10)), (1, .ref (o + tb)), (2, .int (nI (k))), (3, .int (nI (pl)))]) dX7_before_61 (by decide) 1 rfl (by decide) rfl ?_
            refine mm_goto (tgt := 12) dX7_before_64 (by decide) ?_
            refine mn_sub [0, 2, 1, 3, 4, 5, 6] rfl ?_
            exact ih (p + 1) (by omega)
          · refine mm_iconst (v := nI 1) dX7_before_50 (by decide) ?_
            refine mm_iload dX7_before_51 0 rfl ?_
            refine mn_ishl dX7_before_53 (by omega) ?_
            refine mm_goto (tgt := 58) dX7_before_54 (by decide) ?_
            refine mn_ior dX7_before_58 ?_
            refine mn_top (u := .int (nI (bef_ T (k * 27) pl (p + 1)))) (congrArg Value.int (by show nI (_ ||| 1 <<< p) = nI (bef_ T (k * 27) pl p ||| (if T (k * 27 + p) &&& pl ≠ 0 then 2 ^ p else 0)); rw [if_pos c47, bI_one])) ?_
            refine mm_istore (L' := [(4, .int (nI (bef_ T (k * 27) pl (p + 1)))), (6, .int (nI (p))), (5, .int (nI ((k) * (27)))), (0, .ref (o + 10)), (1, .ref (o + tb)), (2, .int (nI (k))), (3, .int (nI (pl)))]) dX7_before_59 (by decide) rfl ?_
            refine mn_iinc (m := 1) (L' := [(6, .int (nI (p + 1))), (4, .int (nI (bef_ T (k * 27) pl (p + 1)))), (5, .int (nI ((k) * (27)))), (0, .ref (o + 10)), (1, .ref (o + tb)), (2, .int (nI (k))), (3, .int (nI (pl)))]) dX7_before_61 (by decide) 1 rfl (by decide) rfl ?_
            refine mm_goto (tgt := 12) dX7_before_64 (by decide) ?_
            refine mn_sub [0, 2, 1, 3, 4, 5, 6] rfl ?_
            exact ih (p + 1) (by omega)
  refine mm_iconst (v := nI 0) dX7_before_0 (by decide) ?_
  refine mm_istore (L' := [(4, .int (nI (0))), (0, .ref (o + 10)), (1, .ref (o + tb)), (2, .int (nI (k))), (3, .int (nI (pl)))]) dX7_before_1 (by decide) rfl ?_
  refine mm_iload_n dX7_before_3 rfl 3 rfl ?_
  refine mm_bipush (v := nI 27) dX7_before_4 (by decide) ?_
  refine mn_imul dX7_before_6 ?_
  refine mm_istore (L' := [(5, .int (nI ((k) * (27)))), (4, .int (nI (0))), (0, .ref (o + 10)), (1, .ref (o + tb)), (2, .int (nI (k))), (3, .int (nI (pl)))]) dX7_before_7 (by decide) rfl ?_
  refine mm_iconst (v := nI 0) dX7_before_9 (by decide) ?_
  refine mm_istore (L' := [(6, .int (nI (0))), (5, .int (nI ((k) * (27)))), (4, .int (nI (0))), (0, .ref (o + 10)), (1, .ref (o + tb)), (2, .int (nI (k))), (3, .int (nI (pl)))]) dX7_before_10 (by decide) rfl ?_
  exact lp sz 0 (by omega)
set_option maxRecDepth 100000 in
set_option maxHeartbeats 4000000 in
theorem cs_after {l : Launch} {D : va_G} {aa : Nat → ClassId} {b0 : Nat} {h : mm_H} {o : Nat} {X : Nat → Nat → Int32} {Y : Nat → Nat → Int64} {rl : Option Nat} {tb k pl sz : Nat} {T : Nat → Nat} (ha : cm_at o X Y rl h) (hTA : TA tb) (hT : tm_ X tb 189 T) (hsz : X 10 10 = nI sz) (hs : sz ≤ 24) (hk : k ≤ 7) (hz : ∀ j, 189 ≤ j → T j = 0) (hpl : pl < 2 ^ 31) : mm_V (zz_K l D aa b0) 0 yX7_after cX7_after 7 (some .int) 0 [(0, .ref (o + 10)), (1, .ref (o + tb)), (2, .int (nI (k))), (3, .int (nI (pl)))] [] h 0 0 (fun rv h' => h' = h ∧ rv = some (.int (nI (aft_ T (k * 27) pl sz)))) := by
  have lp : ∀ n p : Nat, p + n = sz → mm_V (zz_K l D aa b0) 0 yX7_after cX7_after 7 (some .int) 12 [(6, .int (nI (p))), (5, .int (nI ((k) * (27)))), (4, .int (nI (aft_ T (k * 27) pl p))), (0, .ref (o + 10)), (1, .ref (o + tb)), (2, .int (nI (k))), (3, .int (nI (pl)))] [] h 0 0 (fun rv h' => h' = h ∧ rv = some (.int (nI (aft_ T (k * 27) pl sz)))) := by
    intro n
    induction n with
    | zero =>
      intro p hn
      refine mm_iload dX7_after_12 0 rfl ?_
      refine mm_aload_n dX7_after_14 rfl 3 rfl ?_
      refine cm_getI dX7_after_15 ha zr_X7_54 (by decide) rfl rfl ?_
      refine mn_top (u := .int (nI (sz))) (congrArg Value.int ((hsz))) ?_
      refine mn_icmp_ge (tgt := 67) dX7_after_18 (by decide) (by omega) (by omega) (fun c18 => ?_) (fun c18 => ?_)
      · refine mm_iload dX7_after_67 2 rfl ?_
        exact mm_iret dX7_after_69 rfl (⟨rfl, by rw [show p = sz from by omega]⟩)
      · omega
    | succ n ih =>
      intro p hn
      refine mm_iload dX7_after_12 0 rfl ?_
      refine mm_aload_n dX7_after_14 rfl 3 rfl ?_
      refine cm_getI dX7_after_15 ha zr_X7_54 (by decide) rfl rfl ?_
      refine mn_top (u := .int (nI (sz))) (congrArg Value.int ((hsz))) ?_
      refine mn_icmp_ge (tgt := 67) dX7_after_18 (by decide) (by omega) (by omega) (fun c18 => ?_) (fun c18 => ?_)
      · omega
      · refine mm_iload dX7_after_21 1 rfl ?_
        refine mn_if_lt (tgt := 67) dX7_after_23 (by decide) (by omega) ?_
        refine mm_iload dX7_after_26 1 rfl ?_
        refine mm_iload dX7_after_28 0 rfl ?_
        refine mn_iadd dX7_after_30 ?_
        refine mm_aload_n dX7_after_31 rfl 4 rfl ?_
        refine cm_alenI dX7_after_32 ha (TA_lt hTA 0 (by decide)) (TA_0 hTA) ?_
        refine mn_icmp_ge (tgt := 67) dX7_after_33 (by decide) (by omega) (by omega) (fun c33 => ?_) (fun c33 => ?_)
        · refine mm_iload dX7_after_67 2 rfl ?_
          exact mm_iret dX7_after_69 rfl (⟨rfl, by rw [aft_z p (fun q hq => hz _ (by omega)), aft_z sz (fun q hq => hz _ (by omega))]⟩)
        · have hlt : T (k * 27 + p) < 2 ^ 27 := hT.lt (by omega)
          refine mm_iload dX7_after_36 2 rfl ?_
          refine mm_iload_n dX7_after_38 rfl 6 rfl ?_
          refine mm_iload dX7_after_39 0 rfl ?_
          refine mn_ishr dX7_after_41 hpl (by omega) ?_
          refine mm_iconst (v := nI 1) dX7_after_42 (by decide) ?_
          refine mn_iand dX7_after_43 ?_
          refine mn_if_eq (tgt := 57) dX7_after_44 (by decide) (and31 (shr31 hpl)) (fun c44 => ?_) (fun c44 => ?_)
          · rw [bit_1] at c44
            refine mm_iconst (v := nI 0) dX7_after_57 (by decide) ?_
            refine mn_ior dX7_after_58 ?_
            refine mn_top (u := .int (nI (aft_ T (k * 27) pl (p + 1)))) (congrArg Value.int (by show nI (_ ||| 0) = nI (aft_ T (k * 27) pl p ||| (if pl.testBit p = true then T (k * 27 + p) else 0)); rw [if_neg (fun z => by rw [if_pos z] at c44; cases c44)])) ?_
            refine mm_istore (L' := [(4, .int (nI (aft_ T (k * 27) pl (p + 1)))), (6, .int (nI (p))), (5, .int (nI ((k) * (27)))), (0, .ref (o + 10)), (1, .ref (o + tb)), (2, .int (nI (k))), (3, .int (nI (pl)))]) dX7_after_59 (by decide) rfl ?_
            refine mn_iinc (m := 1) (L' := [(6, .int (nI (p + 1))), (4, .int (nI (aft_ T (k * 27) pl (p + 1)))), (5, .int (nI ((k) * (27)))), (0, .ref (o + 10)), (1, .ref (o + tb)), (2, .int (nI (k))), (3, .int (nI (pl)))]) dX7_after_61 (by decide) 1 rfl (by decide) rfl ?_
            refine mm_goto (tgt := 12) dX7_after_64 (by decide) ?_
            refine mn_sub [0, 2, 1, 3, 4, 5, 6] rfl ?_
            exact ih (p + 1) (by omega)
          · rw [bit_1] at c44
            refine mm_aload_n dX7_after_47 rfl 4 rfl ?_
            refine mm_iload dX7_after_48 1 rfl ?_
            refine mm_iload dX7_after_50 0 rfl ?_
            refine mn_iadd dX7_after_52 ?_
            refine cm_iald (i := ((k) * (27)) + (p)) dX7_after_53 ha (TA_lt hTA 0 (by decide)) (TA_0 hTA) (by omega) (by decide) ?_
            refine mn_top (u := .int (nI (T (k * 27 + p)))) (congrArg Value.int (hT.at (j := k * 27 + p) (by omega))) ?_
            refine mm_goto (tgt := 58) dX7_after_54 (by decide) ?_
            refine mn_ior dX7_after_58 ?_
            refine mn_top (u := .int (nI (aft_ T (k * 27) pl (p + 1)))) (congrArg Value.int (by show nI (_ ||| T (k * 27 + p)) = nI (aft_ T (k * 27) pl p ||| (if pl.testBit p = true then T (k * 27 + p) else 0)); rw [if_pos (Classical.not_not.mp (fun z => c44 (if_neg z)))])) ?_
            refine mm_istore (L' := [(4, .int (nI (aft_ T (k * 27) pl (p + 1)))), (6, .int (nI (p))), (5, .int (nI ((k) * (27)))), (0, .ref (o + 10)), (1, .ref (o + tb)), (2, .int (nI (k))), (3, .int (nI (pl)))]) dX7_after_59 (by decide) rfl ?_
            refine mn_iinc (m := 1) (L' := [(6, .int (nI (p + 1))), (4, .int (nI (aft_ T (k * 27) pl (p + 1)))), (5, .int (nI ((k) * (27)))), (0, .ref (o + 10)), (1, .ref (o + tb)), (2, .int (nI (k))), (3, .int (nI (pl)))]) dX7_after_61 (by decide) 1 rfl (by decide) rfl ?_
            refine mm_goto (tgt := 12) dX7_after_64 (by decide) ?_
            refine mn_sub [0, 2, 1, 3, 4, 5, 6] rfl ?_
            exact ih (p + 1) (by omega)
  refine mm_iconst (v := nI 0) dX7_after_0 (by decide) ?_
  refine mm_istore (L' := [(4, .int (nI (0))), (0, .ref (o + 10)), (1, .ref (o + tb)), (2, .int (nI (k))), (3, .int (nI (pl)))]) dX7_after_1 (by decide) rfl ?_
  refine mm_iload_n dX7_after_3 rfl 3 rfl ?_
  refine mm_bipush (v := nI 27) dX7_after_4 (by decide) ?_
  refine mn_imul dX7_after_6 ?_
  refine mm_istore (L' := [(5, .int (nI ((k) * (27)))), (4, .int (nI (0))), (0, .ref (o + 10)), (1, .ref (o + tb)), (2, .int (nI (k))), (3, .int (nI (pl)))]) dX7_after_7 (by decide) rfl ?_
  refine mm_iconst (v := nI 0) dX7_after_9 (by decide) ?_
  refine mm_istore (L' := [(6, .int (nI (0))), (5, .int (nI ((k) * (27)))), (4, .int (nI (0))), (0, .ref (o + 10)), (1, .ref (o + tb)), (2, .int (nI (k))), (3, .int (nI (pl)))]) dX7_after_10 (by decide) rfl ?_
  exact lp sz 0 (by omega)
set_option maxRecDepth 100000 in
set_option maxHeartbeats 4000000 in
theorem cs_dottedOf {l : Launch} {D : va_G} {aa : Nat → ClassId} {b0 : Nat} {h : mm_H} {o : Nat} {X : Nat → Nat → Int32} {Y : Nat → Nat → Int64} {rl : Option Nat} {k dt : Nat} {S : Nat → Nat} (ha : cm_at o X Y rl h) (hS : tm_ X 15 7 S) (hD : X 10 9 = nI dt) (hDl : dt < 2 ^ 27) (hk : k ≤ 7) : mm_V (zz_K l D aa b0) 1 yX7_dottedOf cX7_dottedOf 2 (some .int) 0 [(0, .ref (o + 10)), (1, .int (nI (k)))] [] h 0 0 (fun rv h' => h' = h ∧ rv = some (.int (nI (if k < 7 then S k &&& dt >>> 1 else 0)))) := by
  refine mm_iload_n dX7_dottedOf_0 rfl 1 rfl ?_
  refine cm_callSN (As := [.int (nI (k))]) (rest := []) (d2 := 0) dX7_dottedOf_1 zc_X7_102 rfl rfl (Nat.le_of_ble_eq_true rfl) (Nat.le_of_ble_eq_true rfl) (by decide) (ck_isKind (by omega)) ?_
  refine mn_ifB_eq (tgt := 23) dX7_dottedOf_4 (by decide) (fun c4 => ?_) (fun c4 => ?_)
  · rw [decide_eq_false_iff_not] at c4
    refine mm_iconst (v := nI 0) dX7_dottedOf_23 (by decide) ?_
    exact mm_iret dX7_dottedOf_24 rfl (⟨rfl, by rw [if_neg c4]⟩)
  · rw [decide_eq_true_iff] at c4
    refine mm_aload_n dX7_dottedOf_7 rfl 0 rfl ?_
    refine cm_getR (b := 15) dX7_dottedOf_8 ha zr_X7_24 (by decide) rfl rfl rfl ?_
    refine mm_iload_n dX7_dottedOf_11 rfl 1 rfl ?_
    refine cm_iald (i := k) dX7_dottedOf_12 ha (by decide) rfl (by omega) (by decide) ?_
    refine mn_top (u := .int (nI (S (k)))) (congrArg Value.int (hS.at (by omega))) ?_
    refine mm_aload_n dX7_dottedOf_13 rfl 0 rfl ?_
    refine cm_getI dX7_dottedOf_14 ha zr_X7_93 (by decide) rfl rfl ?_
    refine mn_top (u := .int (nI (dt))) (congrArg Value.int ((hD))) ?_
    refine mm_iconst (v := nI 1) dX7_dottedOf_17 (by decide) ?_
    refine mn_ishr dX7_dottedOf_18 (lt31 hDl) (by omega) ?_
    refine mn_iand dX7_dottedOf_19 ?_
    refine mm_goto (tgt := 24) dX7_dottedOf_20 (by decide) ?_
    exact mm_iret dX7_dottedOf_24 rfl (⟨rfl, by rw [if_pos c4]⟩)
set_option maxRecDepth 100000 in
set_option maxHeartbeats 4000000 in
theorem cs_alteredOf {l : Launch} {D : va_G} {aa : Nat → ClassId} {b0 : Nat} {h : mm_H} {o : Nat} {X : Nat → Nat → Int32} {Y : Nat → Nat → Int64} {rl : Option Nat} {k dt : Nat} {S : Nat → Nat} (ha : cm_at o X Y rl h) (hS : tm_ X 18 7 S) (hk : k ≤ 7) : mm_V (zz_K l D aa b0) 1 yX7_alteredOf cX7_alteredOf 2 (some .int) 0 [(0, .ref (o + 10)), (1, .int (nI (k)))] [] h 0 0 (fun rv h' => h' = h ∧ rv = some (.int (nI (if k < 7 then S k else 0)))) := by
  refine mm_iload_n dX7_alteredOf_0 rfl 1 rfl ?_
  refine cm_callSN (As := [.int (nI (k))]) (rest := []) (d2 := 0) dX7_alteredOf_1 zc_X7_102 rfl rfl (Nat.le_of_ble_eq_true rfl) (Nat.le_of_ble_eq_true rfl) (by decide) (ck_isKind (by omega)) ?_
  refine mn_ifB_eq (tgt := 16) dX7_alteredOf_4 (by decide) (fun c4 => ?_) (fun c4 => ?_)
  · rw [decide_eq_false_iff_not] at c4
    refine mm_iconst (v := nI 0) dX7_alteredOf_16 (by decide) ?_
    exact mm_iret dX7_alteredOf_17 rfl (⟨rfl, by rw [if_neg c4]⟩)
  · rw [decide_eq_true_iff] at c4
    refine mm_aload_n dX7_alteredOf_7 rfl 0 rfl ?_
    refine cm_getR (b := 18) dX7_alteredOf_8 ha zr_X7_33 (by decide) rfl rfl rfl ?_
    refine mm_iload_n dX7_alteredOf_11 rfl 1 rfl ?_
    refine cm_iald (i := k) dX7_alteredOf_12 ha (by decide) rfl (by omega) (by decide) ?_
    refine mn_top (u := .int (nI (S (k)))) (congrArg Value.int (hS.at (by omega))) ?_
    refine mm_goto (tgt := 17) dX7_alteredOf_13 (by decide) ?_
    exact mm_iret dX7_alteredOf_17 rfl (⟨rfl, by rw [if_pos c4]⟩)
set_option maxRecDepth 100000 in
set_option maxHeartbeats 4000000 in
theorem cs_lateImperfectOf {l : Launch} {D : va_G} {aa : Nat → ClassId} {b0 : Nat} {h : mm_H} {o : Nat} {X : Nat → Nat → Int32} {Y : Nat → Nat → Int64} {rl : Option Nat} {k dt : Nat} {S : Nat → Nat} (ha : cm_at o X Y rl h) (hS : tm_ X 19 7 S) (hk : k ≤ 7) : mm_V (zz_K l D aa b0) 1 yX7_lateImperfectOf cX7_lateImperfectOf 2 (some .int) 0 [(0, .ref (o + 10)), (1, .int (nI (k)))] [] h 0 0 (fun rv h' => h' = h ∧ rv = some (.int (nI (if k < 7 then S k else 0)))) := by
  refine mm_iload_n dX7_lateImperfectOf_0 rfl 1 rfl ?_
  refine cm_callSN (As := [.int (nI (k))]) (rest := []) (d2 := 0) dX7_lateImperfectOf_1 zc_X7_102 rfl rfl (Nat.le_of_ble_eq_true rfl) (Nat.le_of_ble_eq_true rfl) (by decide) (ck_isKind (by omega)) ?_
  refine mn_ifB_eq (tgt := 16) dX7_lateImperfectOf_4 (by decide) (fun c4 => ?_) (fun c4 => ?_)
  · rw [decide_eq_false_iff_not] at c4
    refine mm_iconst (v := nI 0) dX7_lateImperfectOf_16 (by decide) ?_
    exact mm_iret dX7_lateImperfectOf_17 rfl (⟨rfl, by rw [if_neg c4]⟩)
  · rw [decide_eq_true_iff] at c4
    refine mm_aload_n dX7_lateImperfectOf_7 rfl 0 rfl ?_
    refine cm_getR (b := 19) dX7_lateImperfectOf_8 ha zr_X7_36 (by decide) rfl rfl rfl ?_
    refine mm_iload_n dX7_lateImperfectOf_11 rfl 1 rfl ?_
    refine cm_iald (i := k) dX7_lateImperfectOf_12 ha (by decide) rfl (by omega) (by decide) ?_
    refine mn_top (u := .int (nI (S (k)))) (congrArg Value.int (hS.at (by omega))) ?_
    refine mm_goto (tgt := 17) dX7_lateImperfectOf_13 (by decide) ?_
    exact mm_iret dX7_lateImperfectOf_17 rfl (⟨rfl, by rw [if_pos c4]⟩)
set_option maxRecDepth 100000 in
set_option maxHeartbeats 4000000 in
theorem cs_endsOf {l : Launch} {D : va_G} {aa : Nat → ClassId} {b0 : Nat} {h : mm_H} {o : Nat} {X : Nat → Nat → Int32} {Y : Nat → Nat → Int64} {rl : Option Nat} {k f p : Nat} {E : Nat → Nat} (ha : cm_at o X Y rl h) (hE : tm_ X 11 3591 E) (hk : k ≤ 6) (hf : f < 19) (hp : p < 27) : mm_V (zz_K l D aa b0) 1 yX7_endsOf cX7_endsOf 5 (some .int) 0 [(0, .ref (o + 10)), (1, .int (nI (k))), (2, .int (nI (f))), (3, .int (nI (p)))] [] h 0 0 (fun rv h' => h' = h ∧ rv = some (.int (nI (E ((k * 19 + f) * 27 + p))))) := by
  refine mm_iload_n dX7_endsOf_0 rfl 1 rfl ?_
  refine cm_callSN (As := [.int (nI (k))]) (rest := []) (d2 := 0) dX7_endsOf_1 zc_X7_102 rfl rfl (Nat.le_of_ble_eq_true rfl) (Nat.le_of_ble_eq_true rfl) (by decide) (ck_isKind (by omega)) ?_
  refine mn_ifB_eq (tgt := 31) dX7_endsOf_4 (by decide) (fun c4 => ?_) (fun c4 => ?_)
  · rw [decide_eq_false_iff_not] at c4
    omega
  · rw [decide_eq_true_iff] at c4
    refine mm_iload_n dX7_endsOf_7 rfl 2 rfl ?_
    refine mn_if_lt (tgt := 31) dX7_endsOf_8 (by decide) (by omega) ?_
    refine mm_iload_n dX7_endsOf_11 rfl 2 rfl ?_
    refine mm_bipush (v := nI 19) dX7_endsOf_12 (by decide) ?_
    refine mn_icmp_ge (tgt := 31) dX7_endsOf_14 (by decide) (by omega) (by omega) (fun c14 => ?_) (fun c14 => ?_)
    · omega
    · refine mm_iload_n dX7_endsOf_17 rfl 3 rfl ?_
      refine mn_if_lt (tgt := 31) dX7_endsOf_18 (by decide) (by omega) ?_
      refine mm_iload_n dX7_endsOf_21 rfl 3 rfl ?_
      refine mm_bipush (v := nI 27) dX7_endsOf_22 (by decide) ?_
      refine mn_icmp_ge (tgt := 31) dX7_endsOf_24 (by decide) (by omega) (by omega) (fun c24 => ?_) (fun c24 => ?_)
      · omega
      · refine mm_iconst (v := nI 1) dX7_endsOf_27 (by decide) ?_
        refine mm_goto (tgt := 32) dX7_endsOf_28 (by decide) ?_
        refine mm_istore (L' := [(4, .int (nI (1))), (0, .ref (o + 10)), (1, .int (nI (k))), (2, .int (nI (f))), (3, .int (nI (p)))]) dX7_endsOf_32 (by decide) rfl ?_
        refine mm_iload dX7_endsOf_34 0 rfl ?_
        refine mn_if_eq (tgt := 58) dX7_endsOf_36 (by decide) (by omega) (fun c36 => ?_) (fun c36 => ?_)
        · omega
        · refine mm_aload_n dX7_endsOf_39 rfl 1 rfl ?_
          refine cm_getR (b := 11) dX7_endsOf_40 ha zr_X7_11 (by decide) rfl rfl rfl ?_
          refine mm_iload_n dX7_endsOf_43 rfl 2 rfl ?_
          refine mm_bipush (v := nI 19) dX7_endsOf_44 (by decide) ?_
          refine mn_imul dX7_endsOf_46 ?_
          refine mm_iload_n dX7_endsOf_47 rfl 3 rfl ?_
          refine mn_iadd dX7_endsOf_48 ?_
          refine mm_bipush (v := nI 27) dX7_endsOf_49 (by decide) ?_
          refine mn_imul dX7_endsOf_51 ?_
          refine mm_iload_n dX7_endsOf_52 rfl 4 rfl ?_
          refine mn_iadd dX7_endsOf_53 ?_
          refine cm_iald (i := ((((k) * (19)) + (f)) * (27)) + (p)) dX7_endsOf_54 ha (by decide) rfl (by omega) (by decide) ?_
          refine mn_top (u := .int (nI (E ((k * 19 + f) * 27 + p)))) (congrArg Value.int (hE.at (j := (k * 19 + f) * 27 + p) (by omega))) ?_
          refine mm_goto (tgt := 59) dX7_endsOf_55 (by decide) ?_
          exact mm_iret dX7_endsOf_59 rfl (⟨rfl, rfl⟩)
set_option maxRecDepth 100000 in
set_option maxHeartbeats 4000000 in
theorem cs_keep {l : Launch} {D : va_G} {aa : Nat → ClassId} {b0 : Nat} {h : mm_H} {o : Nat} {X : Nat → Nat → Int32} {Y : Nat → Nat → Int64} {rl : Option Nat} {tb k f p m : Nat} {T : Nat → Nat} (ha : cm_at o X Y rl h) (hTA : TA tb) (hT : tm_ X tb 189 T) (hk : k ≤ 6) (hff : f < 19) (hp : p < 27) : mm_V (zz_K l D aa b0) 0 yX7_keep cX7_keep 8 none 0 [(0, .ref (o + 10)), (1, .ref (o + tb)), (2, .int (nI (k))), (3, .int (nI (f))), (4, .int (nI (p))), (5, .int (nI (m)))] [] h 0 0 (fun rv h' => rv = none ∧ cm_at o (xu (xu X tb (k * 27 + p) (nI (T (k * 27 + p) ||| m))) 11 ((k * 19 + f) * 27 + p) (nI m)) Y rl h' ∧ cm_fr o h h') := by
  have hf := cm_fr.rf (o := o) (h := h)
  refine mm_iload_n dX7_keep_0 rfl 2 rfl ?_
  refine mm_bipush (v := nI 27) dX7_keep_1 (by decide) ?_
  refine mn_imul dX7_keep_3 ?_
  refine mm_iload dX7_keep_4 4 rfl ?_
  refine mn_iadd dX7_keep_6 ?_
  refine mm_istore (L' := [(6, .int (nI (((k) * (27)) + (p)))), (0, .ref (o + 10)), (1, .ref (o + tb)), (2, .int (nI (k))), (3, .int (nI (f))), (4, .int (nI (p))), (5, .int (nI (m)))]) dX7_keep_7 (by decide) rfl ?_
  refine mm_iload_n dX7_keep_9 rfl 3 rfl ?_
  refine mm_bipush (v := nI 19) dX7_keep_10 (by decide) ?_
  refine mn_imul dX7_keep_12 ?_
  refine mm_iload_n dX7_keep_13 rfl 4 rfl ?_
  refine mn_iadd dX7_keep_14 ?_
  refine mm_bipush (v := nI 27) dX7_keep_15 (by decide) ?_
  refine mn_imul dX7_keep_17 ?_
  refine mm_iload dX7_keep_18 5 rfl ?_
  refine mn_iadd dX7_keep_20 ?_
  refine mm_istore (L' := [(7, .int (nI (((((k) * (19)) + (f)) * (27)) + (p)))), (6, .int (nI (((k) * (27)) + (p)))), (0, .ref (o + 10)), (1, .ref (o + tb)), (2, .int (nI (k))), (3, .int (nI (f))), (4, .int (nI (p))), (5, .int (nI (m)))]) dX7_keep_21 (by decide) rfl ?_
  refine mm_iload dX7_keep_23 1 rfl ?_
  refine mn_if_lt (tgt := 68) dX7_keep_25 (by decide) (by omega) ?_
  refine mm_iload dX7_keep_28 1 rfl ?_
  refine mm_aload_n dX7_keep_30 rfl 3 rfl ?_
  refine cm_alenI dX7_keep_31 ha (TA_lt hTA 0 (by decide)) (TA_0 hTA) ?_
  refine mn_icmp_ge (tgt := 68) dX7_keep_32 (by decide) (by omega) (by omega) (fun c32 => ?_) (fun c32 => ?_)
  · omega
  · refine mm_iload dX7_keep_35 0 rfl ?_
    refine mn_if_lt (tgt := 68) dX7_keep_37 (by decide) (by omega) ?_
    refine mm_iload dX7_keep_40 0 rfl ?_
    refine mm_aload_n dX7_keep_42 rfl 2 rfl ?_
    refine cm_getR (b := 11) dX7_keep_43 ha zr_X7_11 (by decide) rfl rfl rfl ?_
    refine cm_alenI dX7_keep_46 ha (by decide) rfl ?_
    refine mn_icmp_ge (tgt := 68) dX7_keep_47 (by decide) (by omega) (by omega) (fun c47 => ?_) (fun c47 => ?_)
    · omega
    · refine mm_aload_n dX7_keep_50 rfl 3 rfl ?_
      refine mm_iload dX7_keep_51 1 rfl ?_
      refine mm_dup2 dX7_keep_53 rfl rfl ?_
      refine cm_iald (i := ((k) * (27)) + (p)) dX7_keep_54 ha (TA_lt hTA 0 (by decide)) (TA_0 hTA) (by omega) (by decide) ?_
      refine mn_top (u := .int (nI (T (k * 27 + p)))) (congrArg Value.int (hT.at (j := k * 27 + p) (by omega))) ?_
      refine mm_iload dX7_keep_55 7 rfl ?_
      refine mn_ior dX7_keep_57 ?_
      refine cm_iast (i := ((k) * (27)) + (p)) dX7_keep_58 ha hf (TA_lt hTA 0 (by decide)) (TA_0 hTA) (by omega) (by decide) (fun h ha hf => ?_)
      refine mm_aload_n dX7_keep_59 rfl 2 rfl ?_
      refine cm_getR (b := 11) dX7_keep_60 ha zr_X7_11 (by decide) rfl rfl rfl ?_
      refine mm_iload dX7_keep_63 0 rfl ?_
      refine mm_iload dX7_keep_65 7 rfl ?_
      refine cm_iast (i := ((((k) * (19)) + (f)) * (27)) + (p)) dX7_keep_67 ha hf (by decide) rfl (by omega) (by decide) (fun h ha hf => ?_)
      exact mm_vret dX7_keep_68 rfl (⟨rfl, ha, hf⟩)
