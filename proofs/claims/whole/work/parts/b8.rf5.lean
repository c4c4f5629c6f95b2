/-! the reference: readings told -/
set_option maxRecDepth 100000 in
set_option maxHeartbeats 4000000 in
theorem tM_readings {l : Launch} {D : va_G} {aa : Nat → ClassId} {b0 : Nat} {h : mm_H} {o : Nat} {F : Nat → Int32} {G : Nat → Int64} {A : Nat → Nat → Int32} {B : Nat → Nat → Int64} {s : aS} {n : Nat} (ha : rm_at o F G A B h) (hW : WF s) (hI : RI s F A B) (hn : n < aNv s) : mm_V (zz_K l D aa b0) 9 yX12_readings cX12_readings 2 (some .int) 0 [(0, .ref (o)), (1, .int (nI (n)))] [] h 0 0 (fun r h' => r = some (.int (if 1000 < (aR s n).length then (-4) else nI (aR s n).length)) ∧ ∃ (F' : Nat → Int32) (A' : Nat → Nat → Int32), rm_at o F' G A' B h' ∧ rm_fr o h h' ∧ RI (s) F' A' B) := by
  have hf : rm_fr o h h := rm_fr.rf
  have hn6 : n < 6 := by have := hW.1.1; omega
  have hvok := hW.2.1 n hn6
  have hsz24 : aSz s n ≤ 24 := hvok.1.2
  obtain ⟨⟨v1, w1⟩, ⟨v2, w2⟩, ⟨v3, w3⟩, ⟨v4, w4⟩, v5, w5⟩ := hI.1.2 n hn6
  refine mm_aload_n dX12_readings_0 rfl 0 rfl ?_
  refine mm_iload_n dX12_readings_1 rfl 1 rfl ?_
  refine rm_callVr (As := [.int (nI (n))]) (rest := []) (d2 := 1) dX12_readings_2 ha zc_isVoice zc_isVoice_s rfl rfl rfl (Nat.le_of_ble_eq_true rfl) (Nat.le_of_ble_eq_true rfl) (by decide) (tM_isVoice ha hW hI (nI_inb hn (by have := hW.1.1; omega))) ?_
  refine mn_ifB_eq (tgt := 16) dX12_readings_5 (by decide) (fun c5 => ?_) (fun c5 => ?_)
  · cases c5
  · refine mm_aload_n dX12_readings_8 rfl 0 rfl ?_
    refine mm_iload_n dX12_readings_9 rfl 1 rfl ?_
    refine rm_callV (As := [.int (nI (n))]) (rest := []) (d2 := 8) dX12_readings_10 ha zc_read zc_read_s rfl rfl rfl (Nat.le_of_ble_eq_true rfl) (Nat.le_of_ble_eq_true rfl) (by decide) (tM_read ha hW hI hn) (fun r h1 hq => ?_)
    obtain ⟨rfl, F1, A1, N, ha, hf', hI1, hrc, h42⟩ := hq
    have hf := hf.tr hf'
    refine mm_goto (tgt := 18) dX12_readings_13 (by decide) ?_
    exact mm_iret dX12_readings_18 rfl (⟨rfl, F1, A1, ha, hf, hI1⟩)
theorem nI_n4 {n : Nat} (h : n < 2 ^ 31) : ¬ nI n = -4 := fun e => by
  have := congrArg Int32.toInt e
  rw [nI_toInt h] at this
  have e2 : (-4 : Int32).toInt = -4 := by decide
  omega
set_option maxRecDepth 100000 in
set_option maxHeartbeats 4000000 in
theorem tM_findM {l : Launch} {D : va_G} {aa : Nat → ClassId} {b0 : Nat} {h : mm_H} {o : Nat} {F : Nat → Int32} {G : Nat → Int64} {A : Nat → Nat → Int32} {B : Nat → Nat → Int64} {s : aS} {n : Nat} {r : Int32} (ha : rm_at o F G A B h) (hW : WF s) (hI : RI s F A B) (hn : n < aNv s) (hm : 1000 < (aR s n).length) : mm_V (zz_K l D aa b0) 9 yX12_find cX12_find 4 (some .int) 0 [(0, .ref (o)), (1, .int (nI (n))), (2, .int (r))] [] h 0 0 (fun r' h' => r' = some (.int (rfA (aR s n).length r)) ∧ ∃ (F' : Nat → Int32) (A' : Nat → Nat → Int32), rm_at o F' G A' B h' ∧ rm_fr o h h' ∧ RI (s) F' A' B) := by
  have hf : rm_fr o h h := rm_fr.rf
  have hn6 : n < 6 := by have := hW.1.1; omega
  have hvok := hW.2.1 n hn6
  have hsz24 : aSz s n ≤ 24 := hvok.1.2
  obtain ⟨⟨v1, w1⟩, ⟨v2, w2⟩, ⟨v3, w3⟩, ⟨v4, w4⟩, v5, w5⟩ := hI.1.2 n hn6
  have hrk := vok_rk hvok
  refine mm_aload_n dX12_find_0 rfl 0 rfl ?_
  refine mm_iload_n dX12_find_1 rfl 1 rfl ?_
  refine rm_callVr (As := [.int (nI (n))]) (rest := []) (d2 := 1) dX12_find_2 ha zc_isVoice zc_isVoice_s rfl rfl rfl (Nat.le_of_ble_eq_true rfl) (Nat.le_of_ble_eq_true rfl) (by decide) (tM_isVoice ha hW hI (nI_inb hn (by have := hW.1.1; omega))) ?_
  refine mn_ifB_ne (tgt := 11) dX12_find_5 (by decide) (fun c5 => ?_) (fun c5 => ?_)
  · refine mm_aload_n dX12_find_11 rfl 0 rfl ?_
    refine mm_iload_n dX12_find_12 rfl 1 rfl ?_
    refine rm_callV (As := [.int (nI (n))]) (rest := []) (d2 := 8) dX12_find_13 ha zc_read zc_read_s rfl rfl rfl (Nat.le_of_ble_eq_true rfl) (Nat.le_of_ble_eq_true rfl) (by decide) (tM_read ha hW hI hn) (fun r h1 hq => ?_)
    obtain ⟨rfl, F1, A1, N, ha, hf', hI1, hrc, h42⟩ := hq
    have hf := hf.tr hf'
    rw [if_pos hm]
    refine mm_istore_n (L' := [(3, .int ((-4))), (0, .ref (o)), (1, .int (nI (n))), (2, .int (r))]) dX12_find_16 rfl (by decide) rfl ?_
    refine mm_iload_n dX12_find_17 rfl 0 rfl ?_
    refine mm_bipush (v := (-4)) dX12_find_18 (by decide) ?_
    refine mm_icmp_ne (tgt := 28) dX12_find_20 (by decide) (fun c20 => ?_) (fun c20 => ?_)
    · exact absurd rfl c20
    · refine mm_bipush (v := (-4)) dX12_find_23 (by decide) ?_
      refine mm_goto (tgt := 51) dX12_find_25 (by decide) ?_
      exact mm_iret dX12_find_51 rfl (⟨by unfold rfA; rw [if_pos hm], F1, A1, ha, hf, hI1⟩)
  · cases c5
set_option maxRecDepth 100000 in
set_option maxHeartbeats 4000000 in
theorem tM_findO {l : Launch} {D : va_G} {aa : Nat → ClassId} {b0 : Nat} {h : mm_H} {o : Nat} {F : Nat → Int32} {G : Nat → Int64} {A : Nat → Nat → Int32} {B : Nat → Nat → Int64} {s : aS} {n : Nat} {r : Int32} (ha : rm_at o F G A B h) (hW : WF s) (hI : RI s F A B) (hn : n < aNv s) (hN : (aR s n).length ≤ 1000) (hr : r < 0 ∨ nI (aR s n).length ≤ r) : mm_V (zz_K l D aa b0) 9 yX12_find cX12_find 4 (some .int) 0 [(0, .ref (o)), (1, .int (nI (n))), (2, .int (r))] [] h 0 0 (fun r' h' => r' = some (.int (rfA (aR s n).length r)) ∧ ∃ (F' : Nat → Int32) (A' : Nat → Nat → Int32), rm_at o F' G A' B h' ∧ rm_fr o h h' ∧ RI (s) F' A' B) := by
  have hf : rm_fr o h h := rm_fr.rf
  have hn6 : n < 6 := by have := hW.1.1; omega
  have hvok := hW.2.1 n hn6
  have hsz24 : aSz s n ≤ 24 := hvok.1.2
  obtain ⟨⟨v1, w1⟩, ⟨v2, w2⟩, ⟨v3, w3⟩, ⟨v4, w4⟩, v5, w5⟩ := hI.1.2 n hn6
  have hrk := vok_rk hvok
  refine mm_aload_n dX12_find_0 rfl 0 rfl ?_
  refine mm_iload_n dX12_find_1 rfl 1 rfl ?_
  refine rm_callVr (As := [.int (nI (n))]) (rest := []) (d2 := 1) dX12_find_2 ha zc_isVoice zc_isVoice_s rfl rfl rfl (Nat.le_of_ble_eq_true rfl) (Nat.le_of_ble_eq_true rfl) (by decide) (tM_isVoice ha hW hI (nI_inb hn (by have := hW.1.1; omega))) ?_
  refine mn_ifB_ne (tgt := 11) dX12_find_5 (by decide) (fun c5 => ?_) (fun c5 => ?_)
  · refine mm_aload_n dX12_find_11 rfl 0 rfl ?_
    refine mm_iload_n dX12_find_12 rfl 1 rfl ?_
    refine rm_callV (As := [.int (nI (n))]) (rest := []) (d2 := 8) dX12_find_13 ha zc_read zc_read_s rfl rfl rfl (Nat.le_of_ble_eq_true rfl) (Nat.le_of_ble_eq_true rfl) (by decide) (tM_read ha hW hI hn) (fun r h1 hq => ?_)
    obtain ⟨rfl, F1, A1, N, ha, hf', hI1, hrc, h42⟩ := hq
    have hf := hf.tr hf'
    rw [if_neg (show ¬ 1000 < (aR s n).length by omega)]
    refine mm_istore_n (L' := [(3, .int (nI ((aR s n).length))), (0, .ref (o)), (1, .int (nI (n))), (2, .int (r))]) dX12_find_16 rfl (by decide) rfl ?_
    refine mm_iload_n dX12_find_17 rfl 0 rfl ?_
    refine mm_bipush (v := (-4)) dX12_find_18 (by decide) ?_
    refine mm_icmp_ne (tgt := 28) dX12_find_20 (by decide) (fun c20 => ?_) (fun c20 => ?_)
    · refine mm_iload_n dX12_find_28 rfl 3 rfl ?_
      refine mm_i2l dX12_find_29 ?_
      refine mm_lconst (v := lN 0) dX12_find_30 (by decide) ?_
      refine mm_iload_n dX12_find_31 rfl 0 rfl ?_
      refine mm_iconst (v := nI 1) dX12_find_32 (by decide) ?_
      refine mm_isub dX12_find_33 ?_
      refine mm_i2l dX12_find_34 ?_
      refine rm_callSr (As := [.long ((r).toInt64), .long (lN (0)), .long (((nI ((aR s n).length)) - (nI (1))).toInt64)]) (rest := []) (d2 := 0) dX12_find_35 zc_isIn rfl rfl (Nat.le_of_ble_eq_true rfl) (Nat.le_of_ble_eq_true rfl) (by decide) (tm_isIn _ _ _) ?_
      refine mn_top (u := .int (nI (Bool.toNat (false)))) (congrArg Value.int (in_f (a := 0) (b := ((aR s n).length : Int) - 1) (by decide) (in_s (by omega)) (by omega) (by omega) (out_in (by omega) hr))) ?_
      refine mn_ifB_eq (tgt := 50) dX12_find_38 (by decide) (fun c38 => ?_) (fun c38 => ?_)
      · refine mm_iconst (v := (-1)) dX12_find_50 (by decide) ?_
        exact mm_iret dX12_find_51 rfl (⟨by unfold rfA; rw [if_neg (by omega), if_pos hr], F1, A1, ha, hf, hI1⟩)
      · cases c38
    · exact absurd c20 (nI_n4 (by omega))
  · cases c5
set_option maxRecDepth 100000 in
set_option maxHeartbeats 4000000 in
theorem tM_find {l : Launch} {D : va_G} {aa : Nat → ClassId} {b0 : Nat} {h : mm_H} {o : Nat} {F : Nat → Int32} {G : Nat → Int64} {A : Nat → Nat → Int32} {B : Nat → Nat → Int64} {s : aS} {n : Nat} {k : Nat} (ha : rm_at o F G A B h) (hW : WF s) (hI : RI s F A B) (hn : n < aNv s) (hN : (aR s n).length ≤ 1000) (hk : k < (aR s n).length) : mm_V (zz_K l D aa b0) 9 yX12_find cX12_find 4 (some .int) 0 [(0, .ref (o)), (1, .int (nI (n))), (2, .int (nI (k)))] [] h 0 0 (fun r h' => ∃ (q : Nat) (y : gR), r = some (.int (nI q)) ∧ q < 1000 ∧ (aR s n)[k]? = some y ∧ ∃ (F' : Nat → Int32) (A' : Nat → Nat → Int32), rm_at o F' G A' B h' ∧ rm_fr o h h' ∧ RI s F' A' B ∧ fr_at A' q y.1 ∧ (∀ i, i < aSz s n → A' 38 (24 * q + i) = nI (y.2.getD i 0)) ∧ F' 42 = nI n) := by
  have hf : rm_fr o h h := rm_fr.rf
  have hn6 : n < 6 := by have := hW.1.1; omega
  have hvok := hW.2.1 n hn6
  have hsz24 : aSz s n ≤ 24 := hvok.1.2
  obtain ⟨⟨v1, w1⟩, ⟨v2, w2⟩, ⟨v3, w3⟩, ⟨v4, w4⟩, v5, w5⟩ := hI.1.2 n hn6
  have hrk := vok_rk hvok
  refine mm_aload_n dX12_find_0 rfl 0 rfl ?_
  refine mm_iload_n dX12_find_1 rfl 1 rfl ?_
  refine rm_callVr (As := [.int (nI (n))]) (rest := []) (d2 := 1) dX12_find_2 ha zc_isVoice zc_isVoice_s rfl rfl rfl (Nat.le_of_ble_eq_true rfl) (Nat.le_of_ble_eq_true rfl) (by decide) (tM_isVoice ha hW hI (nI_inb hn (by have := hW.1.1; omega))) ?_
  refine mn_ifB_ne (tgt := 11) dX12_find_5 (by decide) (fun c5 => ?_) (fun c5 => ?_)
  · refine mm_aload_n dX12_find_11 rfl 0 rfl ?_
    refine mm_iload_n dX12_find_12 rfl 1 rfl ?_
    refine rm_callV (As := [.int (nI (n))]) (rest := []) (d2 := 8) dX12_find_13 ha zc_read zc_read_s rfl rfl rfl (Nat.le_of_ble_eq_true rfl) (Nat.le_of_ble_eq_true rfl) (by decide) (tM_read ha hW hI hn) (fun r h1 hq => ?_)
    obtain ⟨rfl, F1, A1, N, ha, hf', hI1, hrc, h42⟩ := hq
    have hf := hf.tr hf'
    rw [if_neg (show ¬ 1000 < (aR s n).length by omega)]
    refine mm_istore_n (L' := [(3, .int (nI ((aR s n).length))), (0, .ref (o)), (1, .int (nI (n))), (2, .int (nI (k)))]) dX12_find_16 rfl (by decide) rfl ?_
    refine mm_iload_n dX12_find_17 rfl 0 rfl ?_
    refine mm_bipush (v := (-4)) dX12_find_18 (by decide) ?_
    refine mm_icmp_ne (tgt := 28) dX12_find_20 (by decide) (fun c20 => ?_) (fun c20 => ?_)
    · refine mm_iload_n dX12_find_28 rfl 3 rfl ?_
      refine mm_i2l dX12_find_29 ?_
      refine mm_lconst (v := lN 0) dX12_find_30 (by decide) ?_
      refine mm_iload_n dX12_find_31 rfl 0 rfl ?_
      refine mm_iconst (v := nI 1) dX12_find_32 (by decide) ?_
      refine mm_isub dX12_find_33 ?_
      refine mm_i2l dX12_find_34 ?_
      refine rm_callSr (As := [.long ((nI (k)).toInt64), .long (lN (0)), .long (((nI ((aR s n).length)) - (nI (1))).toInt64)]) (rest := []) (d2 := 0) dX12_find_35 zc_isIn rfl rfl (Nat.le_of_ble_eq_true rfl) (Nat.le_of_ble_eq_true rfl) (by decide) (tm_isIn _ _ _) ?_
      refine mn_top (u := .int (nI (Bool.toNat (true)))) (congrArg Value.int (in_t (a := 0) (b := ((aR s n).length : Int) - 1) (by decide) (in_s (by omega)) (by omega) (by omega) (nI_inb hk (by omega)))) ?_
      obtain ⟨q, y, g1, g2, g3, g4, g5⟩ := rc_get hrc hrk (show (rD (aW s n) (aSg s n)).length ≤ 1000 from hN) (show k < (rD (aW s n) (aSg s n)).length from hk)
      refine mn_ifB_eq (tgt := 50) dX12_find_38 (by decide) (fun c38 => ?_) (fun c38 => ?_)
      · cases c38
      · refine mm_aload_n dX12_find_41 rfl 1 rfl ?_
        refine rm_getA 39 dX12_find_42 ha zf_sorted (by decide) rfl ?_
        refine mm_iload_n dX12_find_45 rfl 3 rfl ?_
        refine rm_iald (k := 39) dX12_find_46 ha rfl rfl rfl (show k < 1001 from (by omega)) ?_
        refine mn_top (u := .int (nI (q))) (congrArg Value.int (g1)) ?_
        refine mm_goto (tgt := 51) dX12_find_47 (by decide) ?_
        exact mm_iret dX12_find_51 rfl (⟨q, y, rfl, g2, g3, F1, A1, ha, hf, hI1, g4, g5, h42⟩)
    · exact absurd c20 (nI_n4 (by omega))
  · cases c5
theorem rfA_or {L : Nat} {r : Int32} (h : rfA L r ≠ 0) : 1000 < L ∨ (L ≤ 1000 ∧ (r < 0 ∨ nI L ≤ r)) := by
  unfold rfA at h
  by_cases c : 1000 < L
  · exact Or.inl c
  · rw [if_neg c] at h
    by_cases c2 : r < 0 ∨ nI L ≤ r
    · exact Or.inr ⟨by omega, c2⟩
    · rw [if_neg c2] at h; exact absurd rfl h
theorem rfA_neg {L : Nat} {r : Int32} (h : rfA L r ≠ 0) : rfA L r < 0 := by
  unfold rfA at h ⊢
  by_cases c : 1000 < L
  · rw [if_pos c]; decide
  · rw [if_neg c] at h ⊢
    by_cases c2 : r < 0 ∨ nI L ≤ r
    · rw [if_pos c2]; decide
    · rw [if_neg c2] at h; exact absurd rfl h
set_option maxRecDepth 100000 in
set_option maxHeartbeats 4000000 in
theorem tM_findR {l : Launch} {D : va_G} {aa : Nat → ClassId} {b0 : Nat} {h : mm_H} {o : Nat} {F : Nat → Int32} {G : Nat → Int64} {A : Nat → Nat → Int32} {B : Nat → Nat → Int64} {s : aS} {n : Nat} {r : Int32} (ha : rm_at o F G A B h) (hW : WF s) (hI : RI s F A B) (hn : n < aNv s) (hr0 : rfA (aR s n).length r ≠ 0) : mm_V (zz_K l D aa b0) 9 yX12_find cX12_find 4 (some .int) 0 [(0, .ref (o)), (1, .int (nI (n))), (2, .int (r))] [] h 0 0 (fun r' h' => r' = some (.int (rfA (aR s n).length r)) ∧ ∃ (F' : Nat → Int32) (A' : Nat → Nat → Int32), rm_at o F' G A' B h' ∧ rm_fr o h h' ∧ RI (s) F' A' B) := by
  rcases rfA_or hr0 with hm | ⟨hN, hr⟩
  · exact tM_findM ha hW hI hn hm
  · exact tM_findO ha hW hI hn hN hr
set_option maxRecDepth 100000 in
set_option maxHeartbeats 4000000 in
theorem tM_strainedR {l : Launch} {D : va_G} {aa : Nat → ClassId} {b0 : Nat} {h : mm_H} {o : Nat} {F : Nat → Int32} {G : Nat → Int64} {A : Nat → Nat → Int32} {B : Nat → Nat → Int64} {s : aS} {n : Nat} {r : Int32} (ha : rm_at o F G A B h) (hW : WF s) (hI : RI s F A B) (hn : n < aNv s) (hr0 : rfA (aR s n).length r ≠ 0) : mm_V (zz_K l D aa b0) 10 yX12_strained cX12_strained 4 (some .int) 0 [(0, .ref (o)), (1, .int (nI (n))), (2, .int (r))] [] h 0 0 (fun r' h' => r' = some (.int (rfA (aR s n).length r)) ∧ ∃ (F' : Nat → Int32) (A' : Nat → Nat → Int32), rm_at o F' G A' B h' ∧ rm_fr o h h' ∧ RI (s) F' A' B) := by
  have hf : rm_fr o h h := rm_fr.rf
  have hn6 : n < 6 := by have := hW.1.1; omega
  have hvok := hW.2.1 n hn6
  have hsz24 : aSz s n ≤ 24 := hvok.1.2
  obtain ⟨⟨v1, w1⟩, ⟨v2, w2⟩, ⟨v3, w3⟩, ⟨v4, w4⟩, v5, w5⟩ := hI.1.2 n hn6
  refine mm_aload_n dX12_strained_0 rfl 0 rfl ?_
  refine mm_iload_n dX12_strained_1 rfl 1 rfl ?_
  refine mm_iload_n dX12_strained_2 rfl 2 rfl ?_
  refine rm_callV (As := [.int (nI (n)), .int (r)]) (rest := []) (d2 := 9) dX12_strained_3 ha zc_find zc_find_s rfl rfl rfl (Nat.le_of_ble_eq_true rfl) (Nat.le_of_ble_eq_true rfl) (by decide) (tM_findR ha hW hI hn hr0) (fun r h1 hq => ?_)
  obtain ⟨rfl, F1, A1, ha, hf', hI1⟩ := hq
  have hf := hf.tr hf'
  refine mm_istore_n (L' := [(3, .int (rfA (aR s n).length r)), (0, .ref (o)), (1, .int (nI (n))), (2, .int (r))]) dX12_strained_6 rfl (by decide) rfl ?_
  refine mm_iload_n dX12_strained_7 rfl 0 rfl ?_
  refine mm_if_ge (tgt := 15) dX12_strained_8 (by decide) (fun c8 => ?_) (fun c8 => ?_)
  · exact absurd (rfA_neg hr0) (Int32.not_lt.mpr c8)
  · refine mm_iload_n dX12_strained_11 rfl 0 rfl ?_
    refine mm_goto (tgt := 21) dX12_strained_12 (by decide) ?_
    exact mm_iret dX12_strained_21 rfl (⟨rfl, F1, A1, ha, hf, hI1⟩)
set_option maxRecDepth 100000 in
set_option maxHeartbeats 4000000 in
theorem tM_formR {l : Launch} {D : va_G} {aa : Nat → ClassId} {b0 : Nat} {h : mm_H} {o : Nat} {F : Nat → Int32} {G : Nat → Int64} {A : Nat → Nat → Int32} {B : Nat → Nat → Int64} {s : aS} {n : Nat} {r : Int32} {i : Int32} (ha : rm_at o F G A B h) (hW : WF s) (hI : RI s F A B) (hn : n < aNv s) (hr0 : rfA (aR s n).length r ≠ 0) : mm_V (zz_K l D aa b0) 10 yX12_form cX12_form 5 (some .int) 0 [(0, .ref (o)), (1, .int (nI (n))), (2, .int (r)), (3, .int (i))] [] h 0 0 (fun r' h' => r' = some (.int (rfA (aR s n).length r)) ∧ ∃ (F' : Nat → Int32) (A' : Nat → Nat → Int32), rm_at o F' G A' B h' ∧ rm_fr o h h' ∧ RI (s) F' A' B) := by
  have hf : rm_fr o h h := rm_fr.rf
  have hn6 : n < 6 := by have := hW.1.1; omega
  have hvok := hW.2.1 n hn6
  have hsz24 : aSz s n ≤ 24 := hvok.1.2
  obtain ⟨⟨v1, w1⟩, ⟨v2, w2⟩, ⟨v3, w3⟩, ⟨v4, w4⟩, v5, w5⟩ := hI.1.2 n hn6
  refine mm_aload_n dX12_form_0 rfl 0 rfl ?_
  refine mm_iload_n dX12_form_1 rfl 1 rfl ?_
  refine mm_iload_n dX12_form_2 rfl 2 rfl ?_
  refine rm_callV (As := [.int (nI (n)), .int (r)]) (rest := []) (d2 := 9) dX12_form_3 ha zc_find zc_find_s rfl rfl rfl (Nat.le_of_ble_eq_true rfl) (Nat.le_of_ble_eq_true rfl) (by decide) (tM_findR ha hW hI hn hr0) (fun r h1 hq => ?_)
  obtain ⟨rfl, F1, A1, ha, hf', hI1⟩ := hq
  have hf := hf.tr hf'
  refine mm_istore (L' := [(4, .int (rfA (aR s n).length r)), (0, .ref (o)), (1, .int (nI (n))), (2, .int (r)), (3, .int (i))]) dX12_form_6 (by decide) rfl ?_
  refine mm_iload dX12_form_8 0 rfl ?_
  refine mm_if_ge (tgt := 18) dX12_form_10 (by decide) (fun c10 => ?_) (fun c10 => ?_)
  · exact absurd (rfA_neg hr0) (Int32.not_lt.mpr c10)
  · refine mm_iload dX12_form_13 0 rfl ?_
    refine mm_goto (tgt := 53) dX12_form_15 (by decide) ?_
    exact mm_iret dX12_form_53 rfl (⟨rfl, F1, A1, ha, hf, hI1⟩)
set_option maxRecDepth 100000 in
set_option maxHeartbeats 4000000 in
theorem tM_valueR {l : Launch} {D : va_G} {aa : Nat → ClassId} {b0 : Nat} {h : mm_H} {o : Nat} {F : Nat → Int32} {G : Nat → Int64} {A : Nat → Nat → Int32} {B : Nat → Nat → Int64} {s : aS} {n : Nat} {r : Int32} {i : Int32} (ha : rm_at o F G A B h) (hW : WF s) (hI : RI s F A B) (hn : n < aNv s) (hr0 : rfA (aR s n).length r ≠ 0) : mm_V (zz_K l D aa b0) 10 yX12_value cX12_value 5 (some .int) 0 [(0, .ref (o)), (1, .int (nI (n))), (2, .int (r)), (3, .int (i))] [] h 0 0 (fun r' h' => r' = some (.int (rfA (aR s n).length r)) ∧ ∃ (F' : Nat → Int32) (A' : Nat → Nat → Int32), rm_at o F' G A' B h' ∧ rm_fr o h h' ∧ RI (s) F' A' B) := by
  have hf : rm_fr o h h := rm_fr.rf
  have hn6 : n < 6 := by have := hW.1.1; omega
  have hvok := hW.2.1 n hn6
  have hsz24 : aSz s n ≤ 24 := hvok.1.2
  obtain ⟨⟨v1, w1⟩, ⟨v2, w2⟩, ⟨v3, w3⟩, ⟨v4, w4⟩, v5, w5⟩ := hI.1.2 n hn6
  refine mm_aload_n dX12_value_0 rfl 0 rfl ?_
  refine mm_iload_n dX12_value_1 rfl 1 rfl ?_
  refine mm_iload_n dX12_value_2 rfl 2 rfl ?_
  refine rm_callV (As := [.int (nI (n)), .int (r)]) (rest := []) (d2 := 9) dX12_value_3 ha zc_find zc_find_s rfl rfl rfl (Nat.le_of_ble_eq_true rfl) (Nat.le_of_ble_eq_true rfl) (by decide) (tM_findR ha hW hI hn hr0) (fun r h1 hq => ?_)
  obtain ⟨rfl, F1, A1, ha, hf', hI1⟩ := hq
  have hf := hf.tr hf'
  refine mm_istore (L' := [(4, .int (rfA (aR s n).length r)), (0, .ref (o)), (1, .int (nI (n))), (2, .int (r)), (3, .int (i))]) dX12_value_6 (by decide) rfl ?_
  refine mm_iload dX12_value_8 0 rfl ?_
  refine mm_if_ge (tgt := 18) dX12_value_10 (by decide) (fun c10 => ?_) (fun c10 => ?_)
  · exact absurd (rfA_neg hr0) (Int32.not_lt.mpr c10)
  · refine mm_iload dX12_value_13 0 rfl ?_
    refine mm_goto (tgt := 52) dX12_value_15 (by decide) ?_
    exact mm_iret dX12_value_52 rfl (⟨rfl, F1, A1, ha, hf, hI1⟩)
set_option maxRecDepth 100000 in
set_option maxHeartbeats 4000000 in
theorem tM_pickR {l : Launch} {D : va_G} {aa : Nat → ClassId} {b0 : Nat} {h : mm_H} {o : Nat} {F : Nat → Int32} {G : Nat → Int64} {A : Nat → Nat → Int32} {B : Nat → Nat → Int64} {s : aS} {n : Nat} {r : Int32} (ha : rm_at o F G A B h) (hW : WF s) (hI : RI s F A B) (hn : n < aNv s) (hr0 : rfA (aR s n).length r ≠ 0) : mm_V (zz_K l D aa b0) 10 yX12_pick cX12_pick 5 (some .int) 0 [(0, .ref (o)), (1, .int (nI (n))), (2, .int (r))] [] h 0 0 (fun r' h' => r' = some (.int (rfA (aR s n).length r)) ∧ ∃ (F' : Nat → Int32) (A' : Nat → Nat → Int32), rm_at o F' G A' B h' ∧ rm_fr o h h' ∧ RI (s) F' A' B) := by
  have hf : rm_fr o h h := rm_fr.rf
  have hn6 : n < 6 := by have := hW.1.1; omega
  have hvok := hW.2.1 n hn6
  have hsz24 : aSz s n ≤ 24 := hvok.1.2
  obtain ⟨⟨v1, w1⟩, ⟨v2, w2⟩, ⟨v3, w3⟩, ⟨v4, w4⟩, v5, w5⟩ := hI.1.2 n hn6
  refine mm_aload_n dX12_pick_0 rfl 0 rfl ?_
  refine mm_iload_n dX12_pick_1 rfl 1 rfl ?_
  refine mm_iload_n dX12_pick_2 rfl 2 rfl ?_
  refine rm_callV (As := [.int (nI (n)), .int (r)]) (rest := []) (d2 := 9) dX12_pick_3 ha zc_find zc_find_s rfl rfl rfl (Nat.le_of_ble_eq_true rfl) (Nat.le_of_ble_eq_true rfl) (by decide) (tM_findR ha hW hI hn hr0) (fun r h1 hq => ?_)
  obtain ⟨rfl, F1, A1, ha, hf', hI1⟩ := hq
  have hf := hf.tr hf'
  refine mm_istore_n (L' := [(3, .int (rfA (aR s n).length r)), (0, .ref (o)), (1, .int (nI (n))), (2, .int (r))]) dX12_pick_6 rfl (by decide) rfl ?_
  refine mm_iload_n dX12_pick_7 rfl 0 rfl ?_
  refine mm_if_ge (tgt := 13) dX12_pick_8 (by decide) (fun c8 => ?_) (fun c8 => ?_)
  · exact absurd (rfA_neg hr0) (Int32.not_lt.mpr c8)
  · refine mm_iload_n dX12_pick_11 rfl 0 rfl ?_
    exact mm_iret dX12_pick_12 rfl (⟨rfl, F1, A1, ha, hf, hI1⟩)
set_option maxRecDepth 100000 in
set_option maxHeartbeats 4000000 in
theorem tM_strained {l : Launch} {D : va_G} {aa : Nat → ClassId} {b0 : Nat} {h : mm_H} {o : Nat} {F : Nat → Int32} {G : Nat → Int64} {A : Nat → Nat → Int32} {B : Nat → Nat → Int64} {s : aS} {n : Nat} {k : Nat} {y : gR} (ha : rm_at o F G A B h) (hW : WF s) (hI : RI s F A B) (hn : n < aNv s) (hN : (aR s n).length ≤ 1000) (hk : k < (aR s n).length) (hy : (aR s n)[k]? = some y) : mm_V (zz_K l D aa b0) 10 yX12_strained cX12_strained 4 (some .int) 0 [(0, .ref (o)), (1, .int (nI (n))), (2, .int (nI (k)))] [] h 0 0 (fun r h' => r = some (.int (nI (sn_ y.1))) ∧ ∃ (F' : Nat → Int32) (A' : Nat → Nat → Int32), rm_at o F' G A' B h' ∧ rm_fr o h h' ∧ RI (s) F' A' B) := by
  have hf : rm_fr o h h := rm_fr.rf
  have hn6 : n < 6 := by have := hW.1.1; omega
  have hvok := hW.2.1 n hn6
  have hsz24 : aSz s n ≤ 24 := hvok.1.2
  obtain ⟨⟨v1, w1⟩, ⟨v2, w2⟩, ⟨v3, w3⟩, ⟨v4, w4⟩, v5, w5⟩ := hI.1.2 n hn6
  refine mm_aload_n dX12_strained_0 rfl 0 rfl ?_
  refine mm_iload_n dX12_strained_1 rfl 1 rfl ?_
  refine mm_iload_n dX12_strained_2 rfl 2 rfl ?_
  refine rm_callV (As := [.int (nI (n)), .int (nI (k))]) (rest := []) (d2 := 9) dX12_strained_3 ha zc_find zc_find_s rfl rfl rfl (Nat.le_of_ble_eq_true rfl) (Nat.le_of_ble_eq_true rfl) (by decide) (tM_find ha hW hI hn hN hk) (fun r h1 hq => ?_)
  obtain ⟨q, y2, rfl, hq, hy2, F1, A1, ha, hf', hI1, hfr, hvl, -⟩ := hq
  have hf := hf.tr hf'
  have ey : y = y2 := Option.some.inj (hy.symm.trans hy2)
  subst ey
  obtain ⟨⟨v1, w1⟩, ⟨v2, w2⟩, ⟨v3, w3⟩, ⟨v4, w4⟩, v5, w5⟩ := hI1.1.2 n hn6
  refine mm_istore_n (L' := [(3, .int (nI (q))), (0, .ref (o)), (1, .int (nI (n))), (2, .int (nI (k)))]) dX12_strained_6 rfl (by decide) rfl ?_
  refine mm_iload_n dX12_strained_7 rfl 0 rfl ?_
  refine mn_if_ge (tgt := 15) dX12_strained_8 (by decide) (by omega) ?_
  refine mm_aload_n dX12_strained_15 rfl 1 rfl ?_
  refine rm_getA 37 dX12_strained_16 ha zf_strain (by decide) rfl ?_
  refine mm_iload_n dX12_strained_19 rfl 0 rfl ?_
  refine rm_iald (k := 37) dX12_strained_20 ha rfl rfl rfl (show q < 1001 from (by omega)) ?_
  refine mn_top (u := .int (nI (sn_ y.1))) (congrArg Value.int (hfr.2.1)) ?_
  exact mm_iret dX12_strained_21 rfl (⟨rfl, F1, A1, ha, hf, hI1⟩)
set_option maxRecDepth 100000 in
set_option maxHeartbeats 4000000 in
theorem tM_form {l : Launch} {D : va_G} {aa : Nat → ClassId} {b0 : Nat} {h : mm_H} {o : Nat} {F : Nat → Int32} {G : Nat → Int64} {A : Nat → Nat → Int32} {B : Nat → Nat → Int64} {s : aS} {n : Nat} {k : Nat} {y : gR} {i : Nat} (ha : rm_at o F G A B h) (hW : WF s) (hI : RI s F A B) (hn : n < aNv s) (hN : (aR s n).length ≤ 1000) (hk : k < (aR s n).length) (hy : (aR s n)[k]? = some y) (hi : i < 2 ^ 31) : mm_V (zz_K l D aa b0) 10 yX12_form cX12_form 5 (some .int) 0 [(0, .ref (o)), (1, .int (nI (n))), (2, .int (nI (k))), (3, .int (nI (i)))] [] h 0 0 (fun r h' => r = some (.int (if i < y.1.length then nI (y.1.getD i 0) else (-1))) ∧ ∃ (F' : Nat → Int32) (A' : Nat → Nat → Int32), rm_at o F' G A' B h' ∧ rm_fr o h h' ∧ RI (s) F' A' B) := by
  have hf : rm_fr o h h := rm_fr.rf
  have hn6 : n < 6 := by have := hW.1.1; omega
  have hvok := hW.2.1 n hn6
  have hsz24 : aSz s n ≤ 24 := hvok.1.2
  obtain ⟨⟨v1, w1⟩, ⟨v2, w2⟩, ⟨v3, w3⟩, ⟨v4, w4⟩, v5, w5⟩ := hI.1.2 n hn6
  refine mm_aload_n dX12_form_0 rfl 0 rfl ?_
  refine mm_iload_n dX12_form_1 rfl 1 rfl ?_
  refine mm_iload_n dX12_form_2 rfl 2 rfl ?_
  refine rm_callV (As := [.int (nI (n)), .int (nI (k))]) (rest := []) (d2 := 9) dX12_form_3 ha zc_find zc_find_s rfl rfl rfl (Nat.le_of_ble_eq_true rfl) (Nat.le_of_ble_eq_true rfl) (by decide) (tM_find ha hW hI hn hN hk) (fun r h1 hq => ?_)
  obtain ⟨q, y2, rfl, hq, hy2, F1, A1, ha, hf', hI1, hfr, hvl, -⟩ := hq
  have hf := hf.tr hf'
  have ey : y = y2 := Option.some.inj (hy.symm.trans hy2)
  subst ey
  obtain ⟨⟨v1, w1⟩, ⟨v2, w2⟩, ⟨v3, w3⟩, ⟨v4, w4⟩, v5, w5⟩ := hI1.1.2 n hn6
  refine mm_istore (L' := [(4, .int (nI (q))), (0, .ref (o)), (1, .int (nI (n))), (2, .int (nI (k))), (3, .int (nI (i)))]) dX12_form_6 (by decide) rfl ?_
  refine mm_iload dX12_form_8 0 rfl ?_
  refine mn_if_ge (tgt := 18) dX12_form_10 (by decide) (by omega) ?_
  refine mm_iload_n dX12_form_18 rfl 4 rfl ?_
  refine mm_i2l dX12_form_19 ?_
  refine mm_lconst (v := lN 0) dX12_form_20 (by decide) ?_
  refine mm_aload_n dX12_form_21 rfl 1 rfl ?_
  refine rm_getA 36 dX12_form_22 ha zf_formMany (by decide) rfl ?_
  refine mm_iload dX12_form_25 0 rfl ?_
  refine rm_iald (k := 36) dX12_form_27 ha rfl rfl rfl (show q < 1001 from (by omega)) ?_
  refine mn_top (u := .int (nI (y.1.length))) (congrArg Value.int (hfr.1)) ?_
  refine mm_iconst (v := nI 1) dX12_form_28 (by decide) ?_
  refine mm_isub dX12_form_29 ?_
  refine mm_i2l dX12_form_30 ?_
  have hl120 : y.1.length ≤ 120 := hfr.2.2.2
  by_cases hil : i < y.1.length
  · refine rm_callSr (As := [.long ((nI (i)).toInt64), .long (lN (0)), .long (((nI (y.1.length)) - (nI (1))).toInt64)]) (rest := []) (d2 := 0) dX12_form_31 zc_isIn rfl rfl (Nat.le_of_ble_eq_true rfl) (Nat.le_of_ble_eq_true rfl) (by decide) (tm_isIn _ _ _) ?_
    refine mn_top (u := .int (nI (Bool.toNat (true)))) (congrArg Value.int (in_t (a := 0) (b := (y.1.length : Int) - 1) (by decide) (in_s (by omega)) (by omega) (by omega) (nI_inb hil (by omega)))) ?_
    refine mn_ifB_eq (tgt := 52) dX12_form_34 (by decide) (fun c34 => ?_) (fun c34 => ?_)
    · cases c34
    · refine mm_aload_n dX12_form_37 rfl 1 rfl ?_
      refine rm_getA 35 dX12_form_38 ha zf_forms (by decide) rfl ?_
      refine mm_bipush (v := nI 120) dX12_form_41 (by decide) ?_
      refine mm_iload dX12_form_43 0 rfl ?_
      refine mn_imul dX12_form_45 ?_
      refine mm_iload_n dX12_form_46 rfl 4 rfl ?_
      refine mn_iadd dX12_form_47 ?_
      refine rm_iald (k := 35) dX12_form_48 ha rfl rfl rfl (show ((120) * (q)) + (i) < 120000 from (by omega)) ?_
      refine mn_top (u := .int (nI (y.1.getD i 0))) (congrArg Value.int ((hfr.2.2.1 i hil).1)) ?_
      refine mm_goto (tgt := 53) dX12_form_49 (by decide) ?_
      exact mm_iret dX12_form_53 rfl (⟨by rw [if_pos hil], F1, A1, ha, hf, hI1⟩)
  · refine rm_callSr (As := [.long ((nI (i)).toInt64), .long (lN (0)), .long (((nI (y.1.length)) - (nI (1))).toInt64)]) (rest := []) (d2 := 0) dX12_form_31 zc_isIn rfl rfl (Nat.le_of_ble_eq_true rfl) (Nat.le_of_ble_eq_true rfl) (by decide) (tm_isIn _ _ _) ?_
    refine mn_top (u := .int (nI (Bool.toNat (false)))) (congrArg Value.int (in_f (a := 0) (b := (y.1.length : Int) - 1) (by decide) (in_s (by omega)) (by omega) (by omega) (by rw [nI_toInt (by omega)]; omega))) ?_
    refine mn_ifB_eq (tgt := 52) dX12_form_34 (by decide) (fun c34 => ?_) (fun c34 => ?_)
    · refine mm_iconst (v := (-1)) dX12_form_52 (by decide) ?_
      exact mm_iret dX12_form_53 rfl (⟨by rw [if_neg hil], F1, A1, ha, hf, hI1⟩)
    · cases c34
set_option maxRecDepth 100000 in
set_option maxHeartbeats 4000000 in
theorem tM_formN2 {l : Launch} {D : va_G} {aa : Nat → ClassId} {b0 : Nat} {h : mm_H} {o : Nat} {F : Nat → Int32} {G : Nat → Int64} {A : Nat → Nat → Int32} {B : Nat → Nat → Int64} {s : aS} {n : Nat} {k : Nat} {y : gR} {i : Int32} (ha : rm_at o F G A B h) (hW : WF s) (hI : RI s F A B) (hn : n < aNv s) (hN : (aR s n).length ≤ 1000) (hk : k < (aR s n).length) (hy : (aR s n)[k]? = some y) (hi : i < 0 ∨ nI y.1.length ≤ i) : mm_V (zz_K l D aa b0) 10 yX12_form cX12_form 5 (some .int) 0 [(0, .ref (o)), (1, .int (nI (n))), (2, .int (nI (k))), (3, .int (i))] [] h 0 0 (fun r h' => r = some (.int (-1)) ∧ ∃ (F' : Nat → Int32) (A' : Nat → Nat → Int32), rm_at o F' G A' B h' ∧ rm_fr o h h' ∧ RI (s) F' A' B) := by
  have hf : rm_fr o h h := rm_fr.rf
  have hn6 : n < 6 := by have := hW.1.1; omega
  have hvok := hW.2.1 n hn6
  have hsz24 : aSz s n ≤ 24 := hvok.1.2
  obtain ⟨⟨v1, w1⟩, ⟨v2, w2⟩, ⟨v3, w3⟩, ⟨v4, w4⟩, v5, w5⟩ := hI.1.2 n hn6
  refine mm_aload_n dX12_form_0 rfl 0 rfl ?_
  refine mm_iload_n dX12_form_1 rfl 1 rfl ?_
  refine mm_iload_n dX12_form_2 rfl 2 rfl ?_
  refine rm_callV (As := [.int (nI (n)), .int (nI (k))]) (rest := []) (d2 := 9) dX12_form_3 ha zc_find zc_find_s rfl rfl rfl (Nat.le_of_ble_eq_true rfl) (Nat.le_of_ble_eq_true rfl) (by decide) (tM_find ha hW hI hn hN hk) (fun r h1 hq => ?_)
  obtain ⟨q, y2, rfl, hq, hy2, F1, A1, ha, hf', hI1, hfr, hvl, -⟩ := hq
  have hf := hf.tr hf'
  have ey : y = y2 := Option.some.inj (hy.symm.trans hy2)
  subst ey
  obtain ⟨⟨v1, w1⟩, ⟨v2, w2⟩, ⟨v3, w3⟩, ⟨v4, w4⟩, v5, w5⟩ := hI1.1.2 n hn6
  refine mm_istore (L' := [(4, .int (nI (q))), (0, .ref (o)), (1, .int (nI (n))), (2, .int (nI (k))), (3, .int (i))]) dX12_form_6 (by decide) rfl ?_
  refine mm_iload dX12_form_8 0 rfl ?_
  refine mn_if_ge (tgt := 18) dX12_form_10 (by decide) (by omega) ?_
  refine mm_iload_n dX12_form_18 rfl 4 rfl ?_
  refine mm_i2l dX12_form_19 ?_
  refine mm_lconst (v := lN 0) dX12_form_20 (by decide) ?_
  refine mm_aload_n dX12_form_21 rfl 1 rfl ?_
  refine rm_getA 36 dX12_form_22 ha zf_formMany (by decide) rfl ?_
  refine mm_iload dX12_form_25 0 rfl ?_
  refine rm_iald (k := 36) dX12_form_27 ha rfl rfl rfl (show q < 1001 from (by omega)) ?_
  refine mn_top (u := .int (nI (y.1.length))) (congrArg Value.int (hfr.1)) ?_
  refine mm_iconst (v := nI 1) dX12_form_28 (by decide) ?_
  refine mm_isub dX12_form_29 ?_
  refine mm_i2l dX12_form_30 ?_
  have hl120 : y.1.length ≤ 120 := hfr.2.2.2
  refine rm_callSr (As := [.long ((i).toInt64), .long (lN (0)), .long (((nI (y.1.length)) - (nI (1))).toInt64)]) (rest := []) (d2 := 0) dX12_form_31 zc_isIn rfl rfl (Nat.le_of_ble_eq_true rfl) (Nat.le_of_ble_eq_true rfl) (by decide) (tm_isIn _ _ _) ?_
  refine mn_top (u := .int (nI (Bool.toNat (false)))) (congrArg Value.int (in_f (a := 0) (b := (y.1.length : Int) - 1) (by decide) (in_s (by omega)) (by omega) (by omega) (out_in (by omega) hi))) ?_
  refine mn_ifB_eq (tgt := 52) dX12_form_34 (by decide) (fun c34 => ?_) (fun c34 => ?_)
  · refine mm_iconst (v := (-1)) dX12_form_52 (by decide) ?_
    exact mm_iret dX12_form_53 rfl (⟨rfl, F1, A1, ha, hf, hI1⟩)
  · cases c34
set_option maxRecDepth 100000 in
set_option maxHeartbeats 4000000 in
theorem tM_value {l : Launch} {D : va_G} {aa : Nat → ClassId} {b0 : Nat} {h : mm_H} {o : Nat} {F : Nat → Int32} {G : Nat → Int64} {A : Nat → Nat → Int32} {B : Nat → Nat → Int64} {s : aS} {n : Nat} {k : Nat} {y : gR} {i : Nat} (ha : rm_at o F G A B h) (hW : WF s) (hI : RI s F A B) (hn : n < aNv s) (hN : (aR s n).length ≤ 1000) (hk : k < (aR s n).length) (hy : (aR s n)[k]? = some y) (hi : i < aSz s n) : mm_V (zz_K l D aa b0) 10 yX12_value cX12_value 5 (some .int) 0 [(0, .ref (o)), (1, .int (nI (n))), (2, .int (nI (k))), (3, .int (nI (i)))] [] h 0 0 (fun r h' => r = some (.int (nI (y.2.getD i 0))) ∧ ∃ (F' : Nat → Int32) (A' : Nat → Nat → Int32), rm_at o F' G A' B h' ∧ rm_fr o h h' ∧ RI (s) F' A' B) := by
  have hf : rm_fr o h h := rm_fr.rf
  have hn6 : n < 6 := by have := hW.1.1; omega
  have hvok := hW.2.1 n hn6
  have hsz24 : aSz s n ≤ 24 := hvok.1.2
  obtain ⟨⟨v1, w1⟩, ⟨v2, w2⟩, ⟨v3, w3⟩, ⟨v4, w4⟩, v5, w5⟩ := hI.1.2 n hn6
  refine mm_aload_n dX12_value_0 rfl 0 rfl ?_
  refine mm_iload_n dX12_value_1 rfl 1 rfl ?_
  refine mm_iload_n dX12_value_2 rfl 2 rfl ?_
  refine rm_callV (As := [.int (nI (n)), .int (nI (k))]) (rest := []) (d2 := 9) dX12_value_3 ha zc_find zc_find_s rfl rfl rfl (Nat.le_of_ble_eq_true rfl) (Nat.le_of_ble_eq_true rfl) (by decide) (tM_find ha hW hI hn hN hk) (fun r h1 hq => ?_)
  obtain ⟨q, y2, rfl, hq, hy2, F1, A1, ha, hf', hI1, hfr, hvl, -⟩ := hq
  have hf := hf.tr hf'
  have ey : y = y2 := Option.some.inj (hy.symm.trans hy2)
  subst ey
  obtain ⟨⟨v1, w1⟩, ⟨v2, w2⟩, ⟨v3, w3⟩, ⟨v4, w4⟩, v5, w5⟩ := hI1.1.2 n hn6
  refine mm_istore (L' := [(4, .int (nI (q))), (0, .ref (o)), (1, .int (nI (n))), (2, .int (nI (k))), (3, .int (nI (i)))]) dX12_value_6 (by decide) rfl ?_
  refine mm_iload dX12_value_8 0 rfl ?_
  refine mn_if_ge (tgt := 18) dX12_value_10 (by decide) (by omega) ?_
  refine mm_iload_n dX12_value_18 rfl 4 rfl ?_
  refine mm_i2l dX12_value_19 ?_
  refine mm_lconst (v := lN 0) dX12_value_20 (by decide) ?_
  refine mm_aload_n dX12_value_21 rfl 1 rfl ?_
  refine rm_getA 2 dX12_value_22 ha zf_sizeOf (by decide) rfl ?_
  refine mm_iload_n dX12_value_25 rfl 2 rfl ?_
  refine rm_iald (k := 2) dX12_value_26 ha rfl rfl rfl (show n < 6 from (by omega)) ?_
  refine mn_top (u := .int (nI (aSz s n))) (congrArg Value.int (v2)) ?_
  refine mm_iconst (v := nI 1) dX12_value_27 (by decide) ?_
  refine mm_isub dX12_value_28 ?_
  refine mm_i2l dX12_value_29 ?_
  refine rm_callSr (As := [.long ((nI (i)).toInt64), .long (lN (0)), .long (((nI (aSz s n)) - (nI (1))).toInt64)]) (rest := []) (d2 := 0) dX12_value_30 zc_isIn rfl rfl (Nat.le_of_ble_eq_true rfl) (Nat.le_of_ble_eq_true rfl) (by decide) (tm_isIn _ _ _) ?_
  refine mn_top (u := .int (nI (Bool.toNat (true)))) (congrArg Value.int (in_t (a := 0) (b := (aSz s n : Int) - 1) (by decide) (in_s (by omega)) (by omega) (by omega) (nI_inb hi (by omega)))) ?_
  refine mn_ifB_eq (tgt := 51) dX12_value_33 (by decide) (fun c33 => ?_) (fun c33 => ?_)
  · cases c33
  · refine mm_aload_n dX12_value_36 rfl 1 rfl ?_
    refine rm_getA 38 dX12_value_37 ha zf_values (by decide) rfl ?_
    refine mm_bipush (v := nI 24) dX12_value_40 (by decide) ?_
    refine mm_iload dX12_value_42 0 rfl ?_
    refine mn_imul dX12_value_44 ?_
    refine mm_iload_n dX12_value_45 rfl 4 rfl ?_
    refine mn_iadd dX12_value_46 ?_
    refine rm_iald (k := 38) dX12_value_47 ha rfl rfl rfl (show ((24) * (q)) + (i) < 24000 from (by omega)) ?_
    refine mn_top (u := .int (nI (y.2.getD i 0))) (congrArg Value.int (hvl i hi)) ?_
    refine mm_goto (tgt := 52) dX12_value_48 (by decide) ?_
    exact mm_iret dX12_value_52 rfl (⟨rfl, F1, A1, ha, hf, hI1⟩)
set_option maxRecDepth 100000 in
set_option maxHeartbeats 4000000 in
theorem tM_valueN2 {l : Launch} {D : va_G} {aa : Nat → ClassId} {b0 : Nat} {h : mm_H} {o : Nat} {F : Nat → Int32} {G : Nat → Int64} {A : Nat → Nat → Int32} {B : Nat → Nat → Int64} {s : aS} {n : Nat} {k : Nat} {y : gR} {i : Int32} (ha : rm_at o F G A B h) (hW : WF s) (hI : RI s F A B) (hn : n < aNv s) (hN : (aR s n).length ≤ 1000) (hk : k < (aR s n).length) (hy : (aR s n)[k]? = some y) (hi : i < 0 ∨ nI (aSz s n) ≤ i) : mm_V (zz_K l D aa b0) 10 yX12_value cX12_value 5 (some .int) 0 [(0, .ref (o)), (1, .int (nI (n))), (2, .int (nI (k))), (3, .int (i))] [] h 0 0 (fun r h' => r = some (.int (-1)) ∧ ∃ (F' : Nat → Int32) (A' : Nat → Nat → Int32), rm_at o F' G A' B h' ∧ rm_fr o h h' ∧ RI (s) F' A' B) := by
  have hf : rm_fr o h h := rm_fr.rf
  have hn6 : n < 6 := by have := hW.1.1; omega
  have hvok := hW.2.1 n hn6
  have hsz24 : aSz s n ≤ 24 := hvok.1.2
  obtain ⟨⟨v1, w1⟩, ⟨v2, w2⟩, ⟨v3, w3⟩, ⟨v4, w4⟩, v5, w5⟩ := hI.1.2 n hn6
  refine mm_aload_n dX12_value_0 rfl 0 rfl ?_
  refine mm_iload_n dX12_value_1 rfl 1 rfl ?_
  refine mm_iload_n dX12_value_2 rfl 2 rfl ?_
  refine rm_callV (As := [.int (nI (n)), .int (nI (k))]) (rest := []) (d2 := 9) dX12_value_3 ha zc_find zc_find_s rfl rfl rfl (Nat.le_of_ble_eq_true rfl) (Nat.le_of_ble_eq_true rfl) (by decide) (tM_find ha hW hI hn hN hk) (fun r h1 hq => ?_)
  obtain ⟨q, y2, rfl, hq, hy2, F1, A1, ha, hf', hI1, hfr, hvl, -⟩ := hq
  have hf := hf.tr hf'
  have ey : y = y2 := Option.some.inj (hy.symm.trans hy2)
  subst ey
  obtain ⟨⟨v1, w1⟩, ⟨v2, w2⟩, ⟨v3, w3⟩, ⟨v4, w4⟩, v5, w5⟩ := hI1.1.2 n hn6
  refine mm_istore (L' := [(4, .int (nI (q))), (0, .ref (o)), (1, .int (nI (n))), (2, .int (nI (k))), (3, .int (i))]) dX12_value_6 (by decide) rfl ?_
  refine mm_iload dX12_value_8 0 rfl ?_
  refine mn_if_ge (tgt := 18) dX12_value_10 (by decide) (by omega) ?_
  refine mm_iload_n dX12_value_18 rfl 4 rfl ?_
  refine mm_i2l dX12_value_19 ?_
  refine mm_lconst (v := lN 0) dX12_value_20 (by decide) ?_
  refine mm_aload_n dX12_value_21 rfl 1 rfl ?_
  refine rm_getA 2 dX12_value_22 ha zf_sizeOf (by decide) rfl ?_
  refine mm_iload_n dX12_value_25 rfl 2 rfl ?_
  refine rm_iald (k := 2) dX12_value_26 ha rfl rfl rfl (show n < 6 from (by omega)) ?_
  refine mn_top (u := .int (nI (aSz s n))) (congrArg Value.int (v2)) ?_
  refine mm_iconst (v := nI 1) dX12_value_27 (by decide) ?_
  refine mm_isub dX12_value_28 ?_
  refine mm_i2l dX12_value_29 ?_
  refine rm_callSr (As := [.long ((i).toInt64), .long (lN (0)), .long (((nI (aSz s n)) - (nI (1))).toInt64)]) (rest := []) (d2 := 0) dX12_value_30 zc_isIn rfl rfl (Nat.le_of_ble_eq_true rfl) (Nat.le_of_ble_eq_true rfl) (by decide) (tm_isIn _ _ _) ?_
  refine mn_top (u := .int (nI (Bool.toNat (false)))) (congrArg Value.int (in_f (a := 0) (b := (aSz s n : Int) - 1) (by decide) (in_s (by omega)) (by omega) (by omega) (out_in (by omega) hi))) ?_
  refine mn_ifB_eq (tgt := 51) dX12_value_33 (by decide) (fun c33 => ?_) (fun c33 => ?_)
  · refine mm_iconst (v := (-1)) dX12_value_51 (by decide) ?_
    exact mm_iret dX12_value_52 rfl (⟨rfl, F1, A1, ha, hf, hI1⟩)
  · cases c33
theorem RI_pick {s : aS} {F : Nat → Int32} {A : Nat → Nat → Int32} {B : Nat → Nat → Int64} {n k : Nat} (h : RI s F A B) (hk : k < 1000) : RI (aPick s n k) F (rm_up A 5 (upd (A 5) n (nI k))) B := by
  refine RI_vo h ⟨h.1.1, fun u hu6 => ?_⟩ rfl (fun j hj => rfl) (fun j hj => by rw [rm_up_n (by omega)]) (Nat.le_refl _) (fun u hu => ⟨rfl, rfl⟩)
  obtain ⟨k1, k2, k3, k4, k5, k6⟩ := h.1.2 u hu6
  rw [rm_up_n (show 1 ≠ 5 by decide), rm_up_n (show 2 ≠ 5 by decide), rm_up_n (show 3 ≠ 5 by decide), rm_up_n (show 4 ≠ 5 by decide), rm_up_s]
  show (A 1 u = nI (aSg s u) ∧ aSg s u < 16) ∧ (A 2 u = nI (aSz s u) ∧ aSz s u ≤ 24) ∧ (A 3 u = nI (aUp s u) ∧ aUp s u ≤ 1000) ∧ (A 4 u = nI (aDn s u) ∧ aDn s u ≤ 1000) ∧ upd (A 5) n (nI k) u = nI (rm_up (aPk s) n k u) ∧ rm_up (aPk s) n k u < 1001
  by_cases e : u = n
  · rw [e, pk_us, rm_up_s]
    rw [e] at k1 k2 k3 k4
    exact ⟨k1, k2, k3, k4, rfl, by omega⟩
  · rw [pk_un e, rm_up_n e]
    exact ⟨k1, k2, k3, k4, k5, k6⟩
set_option maxRecDepth 100000 in
set_option maxHeartbeats 4000000 in
theorem tM_pick {l : Launch} {D : va_G} {aa : Nat → ClassId} {b0 : Nat} {h : mm_H} {o : Nat} {F : Nat → Int32} {G : Nat → Int64} {A : Nat → Nat → Int32} {B : Nat → Nat → Int64} {s : aS} {n : Nat} {k : Nat} {y : gR} (ha : rm_at o F G A B h) (hW : WF s) (hI : RI s F A B) (hn : n < aNv s) (hN : (aR s n).length ≤ 1000) (hk : k < (aR s n).length) (hy : (aR s n)[k]? = some y) : mm_V (zz_K l D aa b0) 10 yX12_pick cX12_pick 5 (some .int) 0 [(0, .ref (o)), (1, .int (nI (n))), (2, .int (nI (k)))] [] h 0 0 (fun r h' => r = some (.int (nI (aPk s n))) ∧ ∃ (F' : Nat → Int32) (A' : Nat → Nat → Int32), rm_at o F' G A' B h' ∧ rm_fr o h h' ∧ RI (aPick s n k) F' A' B) := by
  have hf : rm_fr o h h := rm_fr.rf
  have hn6 : n < 6 := by have := hW.1.1; omega
  have hvok := hW.2.1 n hn6
  have hsz24 : aSz s n ≤ 24 := hvok.1.2
  obtain ⟨⟨v1, w1⟩, ⟨v2, w2⟩, ⟨v3, w3⟩, ⟨v4, w4⟩, v5, w5⟩ := hI.1.2 n hn6
  refine mm_aload_n dX12_pick_0 rfl 0 rfl ?_
  refine mm_iload_n dX12_pick_1 rfl 1 rfl ?_
  refine mm_iload_n dX12_pick_2 rfl 2 rfl ?_
  refine rm_callV (As := [.int (nI (n)), .int (nI (k))]) (rest := []) (d2 := 9) dX12_pick_3 ha zc_find zc_find_s rfl rfl rfl (Nat.le_of_ble_eq_true rfl) (Nat.le_of_ble_eq_true rfl) (by decide) (tM_find ha hW hI hn hN hk) (fun r h1 hq => ?_)
  obtain ⟨q, y2, rfl, hq, hy2, F1, A1, ha, hf', hI1, hfr, hvl, -⟩ := hq
  have hf := hf.tr hf'
  have ey : y = y2 := Option.some.inj (hy.symm.trans hy2)
  subst ey
  obtain ⟨⟨v1, w1⟩, ⟨v2, w2⟩, ⟨v3, w3⟩, ⟨v4, w4⟩, v5, w5⟩ := hI1.1.2 n hn6
  refine mm_istore_n (L' := [(3, .int (nI (q))), (0, .ref (o)), (1, .int (nI (n))), (2, .int (nI (k)))]) dX12_pick_6 rfl (by decide) rfl ?_
  refine mm_iload_n dX12_pick_7 rfl 0 rfl ?_
  refine mn_if_ge (tgt := 13) dX12_pick_8 (by decide) (by omega) ?_
  refine mm_aload_n dX12_pick_13 rfl 1 rfl ?_
  refine rm_getA 5 dX12_pick_14 ha zf_pickedOf (by decide) rfl ?_
  refine mm_iload_n dX12_pick_17 rfl 2 rfl ?_
  refine rm_iald (k := 5) dX12_pick_18 ha rfl rfl rfl (show n < 6 from (by omega)) ?_
  refine mn_top (u := .int (nI (aPk s n))) (congrArg Value.int (v5)) ?_
  refine mm_istore (L' := [(4, .int (nI (aPk s n))), (3, .int (nI (q))), (0, .ref (o)), (1, .int (nI (n))), (2, .int (nI (k)))]) dX12_pick_19 (by decide) rfl ?_
  refine mm_aload_n dX12_pick_21 rfl 2 rfl ?_
  refine rm_getA 5 dX12_pick_22 ha zf_pickedOf (by decide) rfl ?_
  refine mm_iload_n dX12_pick_25 rfl 3 rfl ?_
  refine mm_iload_n dX12_pick_26 rfl 4 rfl ?_
  refine rm_iast (k := 5) dX12_pick_27 ha hf rfl rfl rfl (show n < 6 from (by omega)) (fun h1 ha hf => ?_)
  refine mm_iload dX12_pick_28 0 rfl ?_
  exact mm_iret dX12_pick_30 rfl (⟨rfl, F1, _, ha, hf, RI_pick hI1 (by omega)⟩)
