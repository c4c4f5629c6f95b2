/-! the class: small readers -/
set_option maxRecDepth 100000 in
set_option maxHeartbeats 4000000 in
theorem cr_sortAt {l : Launch} {D : va_G} {aa : Nat → ClassId} {b0 : Nat} {h : mm_H} {o : Nat} {X : Nat → Nat → Int32} {Y : Nat → Nat → Int64} {rl : Option Nat} {r sz i : Nat} (ha : cm_at o X Y rl h) (hra : rA r) (hsz : X r 6 = nI sz) (hs : sz ≤ 24) (hi : i < 2 ^ 31) : mm_V (zz_K l D aa b0) 0 yX6_sortAt cX6_sortAt 2 (some .int) 0 [(0, .ref (o + r)), (1, .int (nI (i)))] [] h 0 0 (fun rv h' => h' = h ∧ rv = some (.int (if i < sz then X (r + 1) i else (-1)))) := by
  refine mm_iload_n dX6_sortAt_0 rfl 1 rfl ?_
  refine mn_if_lt (tgt := 18) dX6_sortAt_1 (by decide) (by omega) ?_
  refine mm_iload_n dX6_sortAt_4 rfl 1 rfl ?_
  refine mm_aload_n dX6_sortAt_5 rfl 0 rfl ?_
  refine cm_getI dX6_sortAt_6 ha zr_X6_38 (rA_lt hra 0 (by decide)) (rA_0 hra) rfl ?_
  refine mn_top (u := .int (nI (sz))) (congrArg Value.int ((hsz))) ?_
  refine mn_icmp_ge (tgt := 18) dX6_sortAt_9 (by decide) (by omega) (by omega) (fun c9 => ?_) (fun c9 => ?_)
  · refine mm_iconst (v := (-1)) dX6_sortAt_18 (by decide) ?_
    refine mm_goto (tgt := 28) dX6_sortAt_19 (by decide) ?_
    exact mm_iret dX6_sortAt_28 rfl (⟨rfl, by first | (rw [if_pos (by omega)]; done) | (rw [if_neg (by omega)]; done) | (rw [if_pos (by omega)]; rfl) | (rw [if_neg (by omega)]; rfl)⟩)
  · refine mm_iload_n dX6_sortAt_12 rfl 1 rfl ?_
    refine mm_bipush (v := nI 24) dX6_sortAt_13 (by decide) ?_
    refine mn_icmp_lt (tgt := 22) dX6_sortAt_15 (by decide) (by omega) (by omega) (fun c15 => ?_) (fun c15 => ?_)
    · refine mm_aload_n dX6_sortAt_22 rfl 0 rfl ?_
      refine cm_getR (b := r + 1) dX6_sortAt_23 ha zr_X6_9 (rA_lt hra 0 (by decide)) (rA_0 hra) rfl rfl ?_
      refine mm_iload_n dX6_sortAt_26 rfl 1 rfl ?_
      refine cm_iald (i := i) dX6_sortAt_27 ha (rA_lt hra 1 (by decide)) (rA_1 hra) (by omega) (by decide) ?_
      exact mm_iret dX6_sortAt_28 rfl (⟨rfl, by first | (rw [if_pos (by omega)]; done) | (rw [if_neg (by omega)]; done) | (rw [if_pos (by omega)]; rfl) | (rw [if_neg (by omega)]; rfl)⟩)
    · refine mm_iconst (v := (-1)) dX6_sortAt_18 (by decide) ?_
      refine mm_goto (tgt := 28) dX6_sortAt_19 (by decide) ?_
      exact mm_iret dX6_sortAt_28 rfl (⟨rfl, by first | (rw [if_pos (by omega)]; done) | (rw [if_neg (by omega)]; done) | (rw [if_pos (by omega)]; rfl) | (rw [if_neg (by omega)]; rfl)⟩)
set_option maxRecDepth 100000 in
set_option maxHeartbeats 4000000 in
theorem cr_kindAt {l : Launch} {D : va_G} {aa : Nat → ClassId} {b0 : Nat} {h : mm_H} {o : Nat} {X : Nat → Nat → Int32} {Y : Nat → Nat → Int64} {rl : Option Nat} {r sz i : Nat} (ha : cm_at o X Y rl h) (hra : rA r) (hsz : X r 6 = nI sz) (hs : sz ≤ 24) (hi : i < 2 ^ 31) : mm_V (zz_K l D aa b0) 0 yX6_kindAt cX6_kindAt 2 (some .int) 0 [(0, .ref (o + r)), (1, .int (nI (i)))] [] h 0 0 (fun rv h' => h' = h ∧ rv = some (.int (if i < sz then X (r + 2) i else (-1)))) := by
  refine mm_iload_n dX6_kindAt_0 rfl 1 rfl ?_
  refine mn_if_lt (tgt := 18) dX6_kindAt_1 (by decide) (by omega) ?_
  refine mm_iload_n dX6_kindAt_4 rfl 1 rfl ?_
  refine mm_aload_n dX6_kindAt_5 rfl 0 rfl ?_
  refine cm_getI dX6_kindAt_6 ha zr_X6_38 (rA_lt hra 0 (by decide)) (rA_0 hra) rfl ?_
  refine mn_top (u := .int (nI (sz))) (congrArg Value.int ((hsz))) ?_
  refine mn_icmp_ge (tgt := 18) dX6_kindAt_9 (by decide) (by omega) (by omega) (fun c9 => ?_) (fun c9 => ?_)
  · refine mm_iconst (v := (-1)) dX6_kindAt_18 (by decide) ?_
    refine mm_goto (tgt := 28) dX6_kindAt_19 (by decide) ?_
    exact mm_iret dX6_kindAt_28 rfl (⟨rfl, by first | (rw [if_pos (by omega)]; done) | (rw [if_neg (by omega)]; done) | (rw [if_pos (by omega)]; rfl) | (rw [if_neg (by omega)]; rfl)⟩)
  · refine mm_iload_n dX6_kindAt_12 rfl 1 rfl ?_
    refine mm_bipush (v := nI 24) dX6_kindAt_13 (by decide) ?_
    refine mn_icmp_lt (tgt := 22) dX6_kindAt_15 (by decide) (by omega) (by omega) (fun c15 => ?_) (fun c15 => ?_)
    · refine mm_aload_n dX6_kindAt_22 rfl 0 rfl ?_
      refine cm_getR (b := r + 2) dX6_kindAt_23 ha zr_X6_15 (rA_lt hra 0 (by decide)) (rA_0 hra) rfl rfl ?_
      refine mm_iload_n dX6_kindAt_26 rfl 1 rfl ?_
      refine cm_iald (i := i) dX6_kindAt_27 ha (rA_lt hra 2 (by decide)) (rA_2 hra) (by omega) (by decide) ?_
      exact mm_iret dX6_kindAt_28 rfl (⟨rfl, by first | (rw [if_pos (by omega)]; done) | (rw [if_neg (by omega)]; done) | (rw [if_pos (by omega)]; rfl) | (rw [if_neg (by omega)]; rfl)⟩)
    · refine mm_iconst (v := (-1)) dX6_kindAt_18 (by decide) ?_
      refine mm_goto (tgt := 28) dX6_kindAt_19 (by decide) ?_
      exact mm_iret dX6_kindAt_28 rfl (⟨rfl, by first | (rw [if_pos (by omega)]; done) | (rw [if_neg (by omega)]; done) | (rw [if_pos (by omega)]; rfl) | (rw [if_neg (by omega)]; rfl)⟩)
set_option maxRecDepth 100000 in
set_option maxHeartbeats 4000000 in
theorem cr_pitchAt {l : Launch} {D : va_G} {aa : Nat → ClassId} {b0 : Nat} {h : mm_H} {o : Nat} {X : Nat → Nat → Int32} {Y : Nat → Nat → Int64} {rl : Option Nat} {r sz i : Nat} (ha : cm_at o X Y rl h) (hra : rA r) (hsz : X r 6 = nI sz) (hs : sz ≤ 24) (hi : i < 2 ^ 31) : mm_V (zz_K l D aa b0) 0 yX6_pitchAt cX6_pitchAt 2 (some .int) 0 [(0, .ref (o + r)), (1, .int (nI (i)))] [] h 0 0 (fun rv h' => h' = h ∧ rv = some (.int (if i < sz then X (r + 3) i else (-1)))) := by
  refine mm_iload_n dX6_pitchAt_0 rfl 1 rfl ?_
  refine mn_if_lt (tgt := 18) dX6_pitchAt_1 (by decide) (by omega) ?_
  refine mm_iload_n dX6_pitchAt_4 rfl 1 rfl ?_
  refine mm_aload_n dX6_pitchAt_5 rfl 0 rfl ?_
  refine cm_getI dX6_pitchAt_6 ha zr_X6_38 (rA_lt hra 0 (by decide)) (rA_0 hra) rfl ?_
  refine mn_top (u := .int (nI (sz))) (congrArg Value.int ((hsz))) ?_
  refine mn_icmp_ge (tgt := 18) dX6_pitchAt_9 (by decide) (by omega) (by omega) (fun c9 => ?_) (fun c9 => ?_)
  · refine mm_iconst (v := (-1)) dX6_pitchAt_18 (by decide) ?_
    refine mm_goto (tgt := 28) dX6_pitchAt_19 (by decide) ?_
    exact mm_iret dX6_pitchAt_28 rfl (⟨rfl, by first | (rw [if_pos (by omega)]; done) | (rw [if_neg (by omega)]; done) | (rw [if_pos (by omega)]; rfl) | (rw [if_neg (by omega)]; rfl)⟩)
  · refine mm_iload_n dX6_pitchAt_12 rfl 1 rfl ?_
    refine mm_bipush (v := nI 24) dX6_pitchAt_13 (by decide) ?_
    refine mn_icmp_lt (tgt := 22) dX6_pitchAt_15 (by decide) (by omega) (by omega) (fun c15 => ?_) (fun c15 => ?_)
    · refine mm_aload_n dX6_pitchAt_22 rfl 0 rfl ?_
      refine cm_getR (b := r + 3) dX6_pitchAt_23 ha zr_X6_18 (rA_lt hra 0 (by decide)) (rA_0 hra) rfl rfl ?_
      refine mm_iload_n dX6_pitchAt_26 rfl 1 rfl ?_
      refine cm_iald (i := i) dX6_pitchAt_27 ha (rA_lt hra 3 (by decide)) (rA_3 hra) (by omega) (by decide) ?_
      exact mm_iret dX6_pitchAt_28 rfl (⟨rfl, by first | (rw [if_pos (by omega)]; done) | (rw [if_neg (by omega)]; done) | (rw [if_pos (by omega)]; rfl) | (rw [if_neg (by omega)]; rfl)⟩)
    · refine mm_iconst (v := (-1)) dX6_pitchAt_18 (by decide) ?_
      refine mm_goto (tgt := 28) dX6_pitchAt_19 (by decide) ?_
      exact mm_iret dX6_pitchAt_28 rfl (⟨rfl, by first | (rw [if_pos (by omega)]; done) | (rw [if_neg (by omega)]; done) | (rw [if_pos (by omega)]; rfl) | (rw [if_neg (by omega)]; rfl)⟩)
set_option maxRecDepth 100000 in
set_option maxHeartbeats 4000000 in
theorem cr_upAt {l : Launch} {D : va_G} {aa : Nat → ClassId} {b0 : Nat} {h : mm_H} {o : Nat} {X : Nat → Nat → Int32} {Y : Nat → Nat → Int64} {rl : Option Nat} {r sz i : Nat} (ha : cm_at o X Y rl h) (hra : rA r) (hsz : X r 6 = nI sz) (hs : sz ≤ 24) (hi : i < 2 ^ 31) : mm_V (zz_K l D aa b0) 0 yX6_upAt cX6_upAt 2 (some .int) 0 [(0, .ref (o + r)), (1, .int (nI (i)))] [] h 0 0 (fun rv h' => h' = h ∧ rv = some (.int (if i < sz then X (r + 5) i else nI 1))) := by
  refine mm_iload_n dX6_upAt_0 rfl 1 rfl ?_
  refine mn_if_lt (tgt := 18) dX6_upAt_1 (by decide) (by omega) ?_
  refine mm_iload_n dX6_upAt_4 rfl 1 rfl ?_
  refine mm_aload_n dX6_upAt_5 rfl 0 rfl ?_
  refine cm_getI dX6_upAt_6 ha zr_X6_38 (rA_lt hra 0 (by decide)) (rA_0 hra) rfl ?_
  refine mn_top (u := .int (nI (sz))) (congrArg Value.int ((hsz))) ?_
  refine mn_icmp_ge (tgt := 18) dX6_upAt_9 (by decide) (by omega) (by omega) (fun c9 => ?_) (fun c9 => ?_)
  · refine mm_iconst (v := nI 1) dX6_upAt_18 (by decide) ?_
    refine mm_goto (tgt := 28) dX6_upAt_19 (by decide) ?_
    exact mm_iret dX6_upAt_28 rfl (⟨rfl, by first | (rw [if_pos (by omega)]; done) | (rw [if_neg (by omega)]; done) | (rw [if_pos (by omega)]; rfl) | (rw [if_neg (by omega)]; rfl)⟩)
  · refine mm_iload_n dX6_upAt_12 rfl 1 rfl ?_
    refine mm_bipush (v := nI 24) dX6_upAt_13 (by decide) ?_
    refine mn_icmp_lt (tgt := 22) dX6_upAt_15 (by decide) (by omega) (by omega) (fun c15 => ?_) (fun c15 => ?_)
    · refine mm_aload_n dX6_upAt_22 rfl 0 rfl ?_
      refine cm_getR (b := r + 5) dX6_upAt_23 ha zr_X6_25 (rA_lt hra 0 (by decide)) (rA_0 hra) rfl rfl ?_
      refine mm_iload_n dX6_upAt_26 rfl 1 rfl ?_
      refine cm_iald (i := i) dX6_upAt_27 ha (rA_lt hra 5 (by decide)) (rA_5 hra) (by omega) (by decide) ?_
      exact mm_iret dX6_upAt_28 rfl (⟨rfl, by first | (rw [if_pos (by omega)]; done) | (rw [if_neg (by omega)]; done) | (rw [if_pos (by omega)]; rfl) | (rw [if_neg (by omega)]; rfl)⟩)
    · refine mm_iconst (v := nI 1) dX6_upAt_18 (by decide) ?_
      refine mm_goto (tgt := 28) dX6_upAt_19 (by decide) ?_
      exact mm_iret dX6_upAt_28 rfl (⟨rfl, by first | (rw [if_pos (by omega)]; done) | (rw [if_neg (by omega)]; done) | (rw [if_pos (by omega)]; rfl) | (rw [if_neg (by omega)]; rfl)⟩)
set_option maxRecDepth 100000 in
set_option maxHeartbeats 4000000 in
theorem cr_downAt {l : Launch} {D : va_G} {aa : Nat → ClassId} {b0 : Nat} {h : mm_H} {o : Nat} {X : Nat → Nat → Int32} {Y : Nat → Nat → Int64} {rl : Option Nat} {r sz i : Nat} (ha : cm_at o X Y rl h) (hra : rA r) (hsz : X r 6 = nI sz) (hs : sz ≤ 24) (hi : i < 2 ^ 31) : mm_V (zz_K l D aa b0) 0 yX6_downAt cX6_downAt 2 (some .int) 0 [(0, .ref (o + r)), (1, .int (nI (i)))] [] h 0 0 (fun rv h' => h' = h ∧ rv = some (.int (if i < sz then X (r + 6) i else nI 1))) := by
  refine mm_iload_n dX6_downAt_0 rfl 1 rfl ?_
  refine mn_if_lt (tgt := 18) dX6_downAt_1 (by decide) (by omega) ?_
  refine mm_iload_n dX6_downAt_4 rfl 1 rfl ?_
  refine mm_aload_n dX6_downAt_5 rfl 0 rfl ?_
  refine cm_getI dX6_downAt_6 ha zr_X6_38 (rA_lt hra 0 (by decide)) (rA_0 hra) rfl ?_
  refine mn_top (u := .int (nI (sz))) (congrArg Value.int ((hsz))) ?_
  refine mn_icmp_ge (tgt := 18) dX6_downAt_9 (by decide) (by omega) (by omega) (fun c9 => ?_) (fun c9 => ?_)
  · refine mm_iconst (v := nI 1) dX6_downAt_18 (by decide) ?_
    refine mm_goto (tgt := 28) dX6_downAt_19 (by decide) ?_
    exact mm_iret dX6_downAt_28 rfl (⟨rfl, by first | (rw [if_pos (by omega)]; done) | (rw [if_neg (by omega)]; done) | (rw [if_pos (by omega)]; rfl) | (rw [if_neg (by omega)]; rfl)⟩)
  · refine mm_iload_n dX6_downAt_12 rfl 1 rfl ?_
    refine mm_bipush (v := nI 24) dX6_downAt_13 (by decide) ?_
    refine mn_icmp_lt (tgt := 22) dX6_downAt_15 (by decide) (by omega) (by omega) (fun c15 => ?_) (fun c15 => ?_)
    · refine mm_aload_n dX6_downAt_22 rfl 0 rfl ?_
      refine cm_getR (b := r + 6) dX6_downAt_23 ha zr_X6_28 (rA_lt hra 0 (by decide)) (rA_0 hra) rfl rfl ?_
      refine mm_iload_n dX6_downAt_26 rfl 1 rfl ?_
      refine cm_iald (i := i) dX6_downAt_27 ha (rA_lt hra 6 (by decide)) (rA_6 hra) (by omega) (by decide) ?_
      exact mm_iret dX6_downAt_28 rfl (⟨rfl, by first | (rw [if_pos (by omega)]; done) | (rw [if_neg (by omega)]; done) | (rw [if_pos (by omega)]; rfl) | (rw [if_neg (by omega)]; rfl)⟩)
    · refine mm_iconst (v := nI 1) dX6_downAt_18 (by decide) ?_
      refine mm_goto (tgt := 28) dX6_downAt_19 (by decide) ?_
      exact mm_iret dX6_downAt_28 rfl (⟨rfl, by first | (rw [if_pos (by omega)]; done) | (rw [if_neg (by omega)]; done) | (rw [if_pos (by omega)]; rfl) | (rw [if_neg (by omega)]; rfl)⟩)
set_option maxRecDepth 100000 in
set_option maxHeartbeats 4000000 in
theorem cr_isColouredAt {l : Launch} {D : va_G} {aa : Nat → ClassId} {b0 : Nat} {h : mm_H} {o : Nat} {X : Nat → Nat → Int32} {Y : Nat → Nat → Int64} {rl : Option Nat} {r sz i : Nat} {co : Nat → Bool} (ha : cm_at o X Y rl h) (hra : rA r) (hsz : X r 6 = nI sz) (hs : sz ≤ 24) (hi : i < 2 ^ 31) (hco : ∀ j, j < sz → X (r + 4) j = nI (Bool.toNat (co j))) : mm_V (zz_K l D aa b0) 0 yX6_isColouredAt cX6_isColouredAt 2 (some .boolean) 0 [(0, .ref (o + r)), (1, .int (nI (i)))] [] h 0 0 (fun rv h' => h' = h ∧ rv = some (.int (nI (Bool.toNat (decide (i < sz) && co i))))) := by
  refine mm_iload_n dX6_isColouredAt_0 rfl 1 rfl ?_
  refine mn_if_lt (tgt := 31) dX6_isColouredAt_1 (by decide) (by omega) ?_
  refine mm_iload_n dX6_isColouredAt_4 rfl 1 rfl ?_
  refine mm_aload_n dX6_isColouredAt_5 rfl 0 rfl ?_
  refine cm_getI dX6_isColouredAt_6 ha zr_X6_38 (rA_lt hra 0 (by decide)) (rA_0 hra) rfl ?_
  refine mn_top (u := .int (nI (sz))) (congrArg Value.int ((hsz))) ?_
  refine mn_icmp_ge (tgt := 31) dX6_isColouredAt_9 (by decide) (by omega) (by omega) (fun c9 => ?_) (fun c9 => ?_)
  · refine mm_iconst (v := nI 0) dX6_isColouredAt_31 (by decide) ?_
    exact mm_zret dX6_isColouredAt_32 rfl (by decide) (⟨rfl, by first | (rw [show (decide (i < sz) && co i) = false from by simp; omega]; rfl) | (rw [show (decide (i < sz) && co i) = false from by simp_all]; rfl) | (rw [show (decide (i < sz) && co i) = true from by simp_all]; rfl)⟩)
  · refine mm_iload_n dX6_isColouredAt_12 rfl 1 rfl ?_
    refine mm_bipush (v := nI 24) dX6_isColouredAt_13 (by decide) ?_
    refine mn_icmp_ge (tgt := 31) dX6_isColouredAt_15 (by decide) (by omega) (by omega) (fun c15 => ?_) (fun c15 => ?_)
    · refine mm_iconst (v := nI 0) dX6_isColouredAt_31 (by decide) ?_
      exact mm_zret dX6_isColouredAt_32 rfl (by decide) (⟨rfl, by first | (rw [show (decide (i < sz) && co i) = false from by simp; omega]; rfl) | (rw [show (decide (i < sz) && co i) = false from by simp_all]; rfl) | (rw [show (decide (i < sz) && co i) = true from by simp_all]; rfl)⟩)
    · refine mm_aload_n dX6_isColouredAt_18 rfl 0 rfl ?_
      refine cm_getR (b := r + 4) dX6_isColouredAt_19 ha zr_X6_21 (rA_lt hra 0 (by decide)) (rA_0 hra) rfl rfl ?_
      refine mm_iload_n dX6_isColouredAt_22 rfl 1 rfl ?_
      refine cm_zald (i := i) dX6_isColouredAt_23 ha (rA_lt hra 4 (by decide)) (rA_4 hra) (by omega) (by decide) ?_
      refine mn_top (u := .int (nI (Bool.toNat (co (i))))) (congrArg Value.int (hco (i) (by omega))) ?_
      refine mn_ifB_eq (tgt := 31) dX6_isColouredAt_24 (by decide) (fun c24 => ?_) (fun c24 => ?_)
      · refine mm_iconst (v := nI 0) dX6_isColouredAt_31 (by decide) ?_
        exact mm_zret dX6_isColouredAt_32 rfl (by decide) (⟨rfl, by first | (rw [show (decide (i < sz) && co i) = false from by simp; omega]; rfl) | (rw [show (decide (i < sz) && co i) = false from by simp_all]; rfl) | (rw [show (decide (i < sz) && co i) = true from by simp_all]; rfl)⟩)
      · refine mm_iconst (v := nI 1) dX6_isColouredAt_27 (by decide) ?_
        refine mm_goto (tgt := 32) dX6_isColouredAt_28 (by decide) ?_
        exact mm_zret dX6_isColouredAt_32 rfl (by decide) (⟨rfl, by first | (rw [show (decide (i < sz) && co i) = false from by simp; omega]; rfl) | (rw [show (decide (i < sz) && co i) = false from by simp_all]; rfl) | (rw [show (decide (i < sz) && co i) = true from by simp_all]; rfl)⟩)
set_option maxRecDepth 100000 in
set_option maxHeartbeats 4000000 in
theorem cr_hasRoomFor {l : Launch} {D : va_G} {aa : Nat → ClassId} {b0 : Nat} {h : mm_H} {o : Nat} {X : Nat → Nat → Int32} {Y : Nat → Nat → Int64} {rl : Option Nat} {r sz n : Nat} (ha : cm_at o X Y rl h) (hra : rA r) (hsz : X r 6 = nI sz) (hs : sz ≤ 24) (hn : n < 100) : mm_V (zz_K l D aa b0) 0 yX6_hasRoomFor cX6_hasRoomFor 2 (some .boolean) 0 [(0, .ref (o + r)), (1, .int (nI (n)))] [] h 0 0 (fun rv h' => h' = h ∧ rv = some (.int (nI (Bool.toNat (decide (sz + n ≤ 24)))))) := by
  refine mm_aload_n dX6_hasRoomFor_0 rfl 0 rfl ?_
  refine cm_getI dX6_hasRoomFor_1 ha zr_X6_38 (rA_lt hra 0 (by decide)) (rA_0 hra) rfl ?_
  refine mn_top (u := .int (nI (sz))) (congrArg Value.int ((hsz))) ?_
  refine mm_iload_n dX6_hasRoomFor_4 rfl 1 rfl ?_
  refine mn_iadd dX6_hasRoomFor_5 ?_
  refine mm_bipush (v := nI 24) dX6_hasRoomFor_6 (by decide) ?_
  refine mn_icmp_gt (tgt := 15) dX6_hasRoomFor_8 (by decide) (by omega) (by omega) (fun c8 => ?_) (fun c8 => ?_)
  · refine mm_iconst (v := nI 0) dX6_hasRoomFor_15 (by decide) ?_
    exact mm_zret dX6_hasRoomFor_16 rfl (by decide) (⟨rfl, by first | (rw [decide_eq_true (by omega)]; rfl) | (rw [decide_eq_false (by omega)]; rfl)⟩)
  · refine mm_iconst (v := nI 1) dX6_hasRoomFor_11 (by decide) ?_
    refine mm_goto (tgt := 16) dX6_hasRoomFor_12 (by decide) ?_
    exact mm_zret dX6_hasRoomFor_16 rfl (by decide) (⟨rfl, by first | (rw [decide_eq_true (by omega)]; rfl) | (rw [decide_eq_false (by omega)]; rfl)⟩)
set_option maxRecDepth 100000 in
set_option maxHeartbeats 4000000 in
theorem cc_sortOf {l : Launch} {D : va_G} {aa : Nat → ClassId} {b0 : Nat} {h : mm_H} {o : Nat} {X : Nat → Nat → Int32} {Y : Nat → Nat → Int64} {rl : Option Nat} {t : Nat} (ha : cm_at o X Y rl h) (ht : t < 2 ^ 31) : mm_V (zz_K l D aa b0) 0 yX0_sortOf cX0_sortOf 2 (some .int) 0 [(0, .ref (o + 4)), (1, .int (nI (t)))] [] h 0 0 (fun rv h' => h' = h ∧ rv = some (.int (if t < 128 then X 5 t else nI 0))) := by
  refine mm_iload_n dX0_sortOf_0 rfl 1 rfl ?_
  refine mn_if_lt (tgt := 11) dX0_sortOf_1 (by decide) (by omega) ?_
  refine mm_iload_n dX0_sortOf_4 rfl 1 rfl ?_
  refine mm_sipush (v := nI 128) dX0_sortOf_5 (by decide) ?_
  refine mn_icmp_lt (tgt := 15) dX0_sortOf_8 (by decide) (by omega) (by omega) (fun c8 => ?_) (fun c8 => ?_)
  · refine mm_aload_n dX0_sortOf_15 rfl 0 rfl ?_
    refine cm_getR (b := 5) dX0_sortOf_16 ha zr_X0_9 (by decide) rfl rfl rfl ?_
    refine mm_iload_n dX0_sortOf_19 rfl 1 rfl ?_
    refine cm_iald (i := t) dX0_sortOf_20 ha (by decide) rfl (by omega) (by decide) ?_
    exact mm_iret dX0_sortOf_21 rfl (⟨rfl, by first | (rw [if_pos (by omega)]; done) | (rw [if_neg (by omega)]; done) | (rw [if_pos (by omega)]; rfl) | (rw [if_neg (by omega)]; rfl)⟩)
  · refine mm_iconst (v := nI 0) dX0_sortOf_11 (by decide) ?_
    refine mm_goto (tgt := 21) dX0_sortOf_12 (by decide) ?_
    exact mm_iret dX0_sortOf_21 rfl (⟨rfl, by first | (rw [if_pos (by omega)]; done) | (rw [if_neg (by omega)]; done) | (rw [if_pos (by omega)]; rfl) | (rw [if_neg (by omega)]; rfl)⟩)
set_option maxRecDepth 100000 in
set_option maxHeartbeats 4000000 in
theorem cc_kindOf {l : Launch} {D : va_G} {aa : Nat → ClassId} {b0 : Nat} {h : mm_H} {o : Nat} {X : Nat → Nat → Int32} {Y : Nat → Nat → Int64} {rl : Option Nat} {t : Nat} (ha : cm_at o X Y rl h) (ht : t < 2 ^ 31) : mm_V (zz_K l D aa b0) 0 yX0_kindOf cX0_kindOf 2 (some .int) 0 [(0, .ref (o + 4)), (1, .int (nI (t)))] [] h 0 0 (fun rv h' => h' = h ∧ rv = some (.int (if t < 128 then X 6 t else nI 0))) := by
  refine mm_iload_n dX0_kindOf_0 rfl 1 rfl ?_
  refine mn_if_lt (tgt := 11) dX0_kindOf_1 (by decide) (by omega) ?_
  refine mm_iload_n dX0_kindOf_4 rfl 1 rfl ?_
  refine mm_sipush (v := nI 128) dX0_kindOf_5 (by decide) ?_
  refine mn_icmp_lt (tgt := 15) dX0_kindOf_8 (by decide) (by omega) (by omega) (fun c8 => ?_) (fun c8 => ?_)
  · refine mm_aload_n dX0_kindOf_15 rfl 0 rfl ?_
    refine cm_getR (b := 6) dX0_kindOf_16 ha zr_X0_13 (by decide) rfl rfl rfl ?_
    refine mm_iload_n dX0_kindOf_19 rfl 1 rfl ?_
    refine cm_iald (i := t) dX0_kindOf_20 ha (by decide) rfl (by omega) (by decide) ?_
    exact mm_iret dX0_kindOf_21 rfl (⟨rfl, by first | (rw [if_pos (by omega)]; done) | (rw [if_neg (by omega)]; done) | (rw [if_pos (by omega)]; rfl) | (rw [if_neg (by omega)]; rfl)⟩)
  · refine mm_iconst (v := nI 0) dX0_kindOf_11 (by decide) ?_
    refine mm_goto (tgt := 21) dX0_kindOf_12 (by decide) ?_
    exact mm_iret dX0_kindOf_21 rfl (⟨rfl, by first | (rw [if_pos (by omega)]; done) | (rw [if_neg (by omega)]; done) | (rw [if_pos (by omega)]; rfl) | (rw [if_neg (by omega)]; rfl)⟩)
set_option maxRecDepth 100000 in
set_option maxHeartbeats 4000000 in
theorem cc_worthOf {l : Launch} {D : va_G} {aa : Nat → ClassId} {b0 : Nat} {h : mm_H} {o : Nat} {X : Nat → Nat → Int32} {Y : Nat → Nat → Int64} {rl : Option Nat} {t : Nat} (ha : cm_at o X Y rl h) (ht : t < 2 ^ 31) : mm_V (zz_K l D aa b0) 0 yX0_worthOf cX0_worthOf 2 (some .int) 0 [(0, .ref (o + 4)), (1, .int (nI (t)))] [] h 0 0 (fun rv h' => h' = h ∧ rv = some (.int (if t < 128 then X 7 t else nI 0))) := by
  refine mm_iload_n dX0_worthOf_0 rfl 1 rfl ?_
  refine mn_if_lt (tgt := 11) dX0_worthOf_1 (by decide) (by omega) ?_
  refine mm_iload_n dX0_worthOf_4 rfl 1 rfl ?_
  refine mm_sipush (v := nI 128) dX0_worthOf_5 (by decide) ?_
  refine mn_icmp_lt (tgt := 15) dX0_worthOf_8 (by decide) (by omega) (by omega) (fun c8 => ?_) (fun c8 => ?_)
  · refine mm_aload_n dX0_worthOf_15 rfl 0 rfl ?_
    refine cm_getR (b := 7) dX0_worthOf_16 ha zr_X0_16 (by decide) rfl rfl rfl ?_
    refine mm_iload_n dX0_worthOf_19 rfl 1 rfl ?_
    refine cm_iald (i := t) dX0_worthOf_20 ha (by decide) rfl (by omega) (by decide) ?_
    exact mm_iret dX0_worthOf_21 rfl (⟨rfl, by first | (rw [if_pos (by omega)]; done) | (rw [if_neg (by omega)]; done) | (rw [if_pos (by omega)]; rfl) | (rw [if_neg (by omega)]; rfl)⟩)
  · refine mm_iconst (v := nI 0) dX0_worthOf_11 (by decide) ?_
    refine mm_goto (tgt := 21) dX0_worthOf_12 (by decide) ?_
    exact mm_iret dX0_worthOf_21 rfl (⟨rfl, by first | (rw [if_pos (by omega)]; done) | (rw [if_neg (by omega)]; done) | (rw [if_pos (by omega)]; rfl) | (rw [if_neg (by omega)]; rfl)⟩)
set_option maxRecDepth 100000 in
set_option maxHeartbeats 4000000 in
theorem cc_restOf {l : Launch} {D : va_G} {aa : Nat → ClassId} {b0 : Nat} {h : mm_H} {o : Nat} {X : Nat → Nat → Int32} {Y : Nat → Nat → Int64} {rl : Option Nat} {t : Nat} (ha : cm_at o X Y rl h) (ht : t < 2 ^ 31) : mm_V (zz_K l D aa b0) 0 yX0_restOf cX0_restOf 2 (some .int) 0 [(0, .ref (o + 4)), (1, .int (nI (t)))] [] h 0 0 (fun rv h' => h' = h ∧ rv = some (.int (if t < 128 then X 8 t else nI 0))) := by
  refine mm_iload_n dX0_restOf_0 rfl 1 rfl ?_
  refine mn_if_lt (tgt := 11) dX0_restOf_1 (by decide) (by omega) ?_
  refine mm_iload_n dX0_restOf_4 rfl 1 rfl ?_
  refine mm_sipush (v := nI 128) dX0_restOf_5 (by decide) ?_
  refine mn_icmp_lt (tgt := 15) dX0_restOf_8 (by decide) (by omega) (by omega) (fun c8 => ?_) (fun c8 => ?_)
  · refine mm_aload_n dX0_restOf_15 rfl 0 rfl ?_
    refine cm_getR (b := 8) dX0_restOf_16 ha zr_X0_19 (by decide) rfl rfl rfl ?_
    refine mm_iload_n dX0_restOf_19 rfl 1 rfl ?_
    refine cm_iald (i := t) dX0_restOf_20 ha (by decide) rfl (by omega) (by decide) ?_
    exact mm_iret dX0_restOf_21 rfl (⟨rfl, by first | (rw [if_pos (by omega)]; done) | (rw [if_neg (by omega)]; done) | (rw [if_pos (by omega)]; rfl) | (rw [if_neg (by omega)]; rfl)⟩)
  · refine mm_iconst (v := nI 0) dX0_restOf_11 (by decide) ?_
    refine mm_goto (tgt := 21) dX0_restOf_12 (by decide) ?_
    exact mm_iret dX0_restOf_21 rfl (⟨rfl, by first | (rw [if_pos (by omega)]; done) | (rw [if_neg (by omega)]; done) | (rw [if_pos (by omega)]; rfl) | (rw [if_neg (by omega)]; rfl)⟩)
set_option maxRecDepth 100000 in
set_option maxHeartbeats 4000000 in
theorem cc_placesOf {l : Launch} {D : va_G} {aa : Nat → ClassId} {b0 : Nat} {h : mm_H} {o : Nat} {X : Nat → Nat → Int32} {Y : Nat → Nat → Int64} {rl : Option Nat} {t : Nat} (ha : cm_at o X Y rl h) (ht : t < 2 ^ 31) : mm_V (zz_K l D aa b0) 0 yX0_placesOf cX0_placesOf 2 (some .int) 0 [(0, .ref (o + 4)), (1, .int (nI (t)))] [] h 0 0 (fun rv h' => h' = h ∧ rv = some (.int (if t < 128 then X 9 t else nI 0))) := by
  refine mm_iload_n dX0_placesOf_0 rfl 1 rfl ?_
  refine mn_if_lt (tgt := 11) dX0_placesOf_1 (by decide) (by omega) ?_
  refine mm_iload_n dX0_placesOf_4 rfl 1 rfl ?_
  refine mm_sipush (v := nI 128) dX0_placesOf_5 (by decide) ?_
  refine mn_icmp_lt (tgt := 15) dX0_placesOf_8 (by decide) (by omega) (by omega) (fun c8 => ?_) (fun c8 => ?_)
  · refine mm_aload_n dX0_placesOf_15 rfl 0 rfl ?_
    refine cm_getR (b := 9) dX0_placesOf_16 ha zr_X0_22 (by decide) rfl rfl rfl ?_
    refine mm_iload_n dX0_placesOf_19 rfl 1 rfl ?_
    refine cm_iald (i := t) dX0_placesOf_20 ha (by decide) rfl (by omega) (by decide) ?_
    exact mm_iret dX0_placesOf_21 rfl (⟨rfl, by first | (rw [if_pos (by omega)]; done) | (rw [if_neg (by omega)]; done) | (rw [if_pos (by omega)]; rfl) | (rw [if_neg (by omega)]; rfl)⟩)
  · refine mm_iconst (v := nI 0) dX0_placesOf_11 (by decide) ?_
    refine mm_goto (tgt := 21) dX0_placesOf_12 (by decide) ?_
    exact mm_iret dX0_placesOf_21 rfl (⟨rfl, by first | (rw [if_pos (by omega)]; done) | (rw [if_neg (by omega)]; done) | (rw [if_pos (by omega)]; rfl) | (rw [if_neg (by omega)]; rfl)⟩)
set_option maxRecDepth 100000 in
set_option maxHeartbeats 4000000 in
theorem cv_ticksAt {l : Launch} {D : va_G} {aa : Nat → ClassId} {b0 : Nat} {h : mm_H} {o : Nat} {X : Nat → Nat → Int32} {Y : Nat → Nat → Int64} {rl : Option Nat} {a i : Nat} (ha : cm_at o X Y rl h) (hva : vA a) (hi : i < 2 ^ 31) : mm_V (zz_K l D aa b0) 0 yX9_ticksAt cX9_ticksAt 2 (some .int) 0 [(0, .ref (o + a)), (1, .int (nI (i)))] [] h 0 0 (fun rv h' => h' = h ∧ rv = some (.int (if i < 24 then X (a + 2) i else nI 0))) := by
  refine mm_iload_n dX9_ticksAt_0 rfl 1 rfl ?_
  refine mn_if_lt (tgt := 10) dX9_ticksAt_1 (by decide) (by omega) ?_
  refine mm_iload_n dX9_ticksAt_4 rfl 1 rfl ?_
  refine mm_bipush (v := nI 24) dX9_ticksAt_5 (by decide) ?_
  refine mn_icmp_lt (tgt := 14) dX9_ticksAt_7 (by decide) (by omega) (by omega) (fun c7 => ?_) (fun c7 => ?_)
  · refine mm_aload_n dX9_ticksAt_14 rfl 0 rfl ?_
    refine cm_getR (b := a + 2) dX9_ticksAt_15 ha zr_X9_15 (vA_lt hva 0 (by decide)) (vA_0 hva) rfl rfl ?_
    refine mm_iload_n dX9_ticksAt_18 rfl 1 rfl ?_
    refine cm_iald (i := i) dX9_ticksAt_19 ha (vA_lt hva 2 (by decide)) (vA_2 hva) (by omega) (by decide) ?_
    exact mm_iret dX9_ticksAt_20 rfl (⟨rfl, by first | (rw [if_pos (by omega)]; done) | (rw [if_neg (by omega)]; done) | (rw [if_pos (by omega)]; rfl) | (rw [if_neg (by omega)]; rfl)⟩)
  · refine mm_iconst (v := nI 0) dX9_ticksAt_10 (by decide) ?_
    refine mm_goto (tgt := 20) dX9_ticksAt_11 (by decide) ?_
    exact mm_iret dX9_ticksAt_20 rfl (⟨rfl, by first | (rw [if_pos (by omega)]; done) | (rw [if_neg (by omega)]; done) | (rw [if_pos (by omega)]; rfl) | (rw [if_neg (by omega)]; rfl)⟩)
set_option maxRecDepth 100000 in
set_option maxHeartbeats 4000000 in
theorem cv_isMany {l : Launch} {D : va_G} {aa : Nat → ClassId} {b0 : Nat} {h : mm_H} {o : Nat} {X : Nat → Nat → Int32} {Y : Nat → Nat → Int64} {rl : Option Nat} {a t : Nat} (ha : cm_at o X Y rl h) (hva : vA a) (ht : X a 5 = nI t) (htt : t < 2 ^ 31) : mm_V (zz_K l D aa b0) 0 yX9_isMany cX9_isMany 1 (some .boolean) 0 [(0, .ref (o + a))] [] h 0 0 (fun rv h' => h' = h ∧ rv = some (.int (nI (Bool.toNat (decide (1000 < t)))))) := by
  refine mm_aload_n dX9_isMany_0 rfl 0 rfl ?_
  refine cm_getI dX9_isMany_1 ha zr_X9_59 (vA_lt hva 0 (by decide)) (vA_0 hva) rfl ?_
  refine mn_top (u := .int (nI (t))) (congrArg Value.int ((ht))) ?_
  refine mm_sipush (v := nI 1000) dX9_isMany_4 (by decide) ?_
  refine mn_icmp_le (tgt := 14) dX9_isMany_7 (by decide) (by omega) (by omega) (fun c7 => ?_) (fun c7 => ?_)
  · refine mm_iconst (v := nI 0) dX9_isMany_14 (by decide) ?_
    exact mm_zret dX9_isMany_15 rfl (by decide) (⟨rfl, by first | (rw [decide_eq_true (by omega)]; rfl) | (rw [decide_eq_false (by omega)]; rfl)⟩)
  · refine mm_iconst (v := nI 1) dX9_isMany_10 (by decide) ?_
    refine mm_goto (tgt := 15) dX9_isMany_11 (by decide) ?_
    exact mm_zret dX9_isMany_15 rfl (by decide) (⟨rfl, by first | (rw [decide_eq_true (by omega)]; rfl) | (rw [decide_eq_false (by omega)]; rfl)⟩)
set_option maxRecDepth 100000 in
set_option maxHeartbeats 4000000 in
theorem cf_isMany {l : Launch} {D : va_G} {aa : Nat → ClassId} {b0 : Nat} {h : mm_H} {o : Nat} {X : Nat → Nat → Int32} {Y : Nat → Nat → Int64} {rl : Option Nat} {t : Nat} (ha : cm_at o X Y rl h) (ht : X 20 4 = nI t) (htt : t < 2 ^ 31) : mm_V (zz_K l D aa b0) 0 yX3_isMany cX3_isMany 1 (some .boolean) 0 [(0, .ref (o + 20))] [] h 0 0 (fun rv h' => h' = h ∧ rv = some (.int (nI (Bool.toNat (decide (1000 < t)))))) := by
  refine mm_aload_n dX3_isMany_0 rfl 0 rfl ?_
  refine cm_getI dX3_isMany_1 ha zr_X3_25 (by decide) rfl rfl ?_
  refine mn_top (u := .int (nI (t))) (congrArg Value.int ((ht))) ?_
  refine mm_sipush (v := nI 1000) dX3_isMany_4 (by decide) ?_
  refine mn_icmp_le (tgt := 14) dX3_isMany_7 (by decide) (by omega) (by omega) (fun c7 => ?_) (fun c7 => ?_)
  · refine mm_iconst (v := nI 0) dX3_isMany_14 (by decide) ?_
    exact mm_zret dX3_isMany_15 rfl (by decide) (⟨rfl, by first | (rw [decide_eq_true (by omega)]; rfl) | (rw [decide_eq_false (by omega)]; rfl)⟩)
  · refine mm_iconst (v := nI 1) dX3_isMany_10 (by decide) ?_
    refine mm_goto (tgt := 15) dX3_isMany_11 (by decide) ?_
    exact mm_zret dX3_isMany_15 rfl (by decide) (⟨rfl, by first | (rw [decide_eq_true (by omega)]; rfl) | (rw [decide_eq_false (by omega)]; rfl)⟩)
set_option maxRecDepth 100000 in
set_option maxHeartbeats 4000000 in
theorem cd_formAt {l : Launch} {D : va_G} {aa : Nat → ClassId} {b0 : Nat} {h : mm_H} {o : Nat} {X : Nat → Nat → Int32} {Y : Nat → Nat → Int64} {rl : Option Nat} {i n : Nat} (ha : cm_at o X Y rl h) (hl : X 25 2 = nI n) (hn : n ≤ 48) (hi : i < 2 ^ 31) : mm_V (zz_K l D aa b0) 0 yX1_formAt cX1_formAt 2 (some .int) 0 [(0, .ref (o + 25)), (1, .int (nI (i)))] [] h 0 0 (fun rv h' => h' = h ∧ rv = some (.int (if i < n then X 26 i else (-1)))) := by
  refine mm_iload_n dX1_formAt_0 rfl 1 rfl ?_
  refine mn_if_lt (tgt := 18) dX1_formAt_1 (by decide) (by omega) ?_
  refine mm_iload_n dX1_formAt_4 rfl 1 rfl ?_
  refine mm_aload_n dX1_formAt_5 rfl 0 rfl ?_
  refine cm_getI dX1_formAt_6 ha zr_X1_18 (by decide) rfl rfl ?_
  refine mn_top (u := .int (nI (n))) (congrArg Value.int ((hl))) ?_
  refine mn_icmp_ge (tgt := 18) dX1_formAt_9 (by decide) (by omega) (by omega) (fun c9 => ?_) (fun c9 => ?_)
  · refine mm_iconst (v := (-1)) dX1_formAt_18 (by decide) ?_
    refine mm_goto (tgt := 28) dX1_formAt_19 (by decide) ?_
    exact mm_iret dX1_formAt_28 rfl (⟨rfl, by first | (rw [if_pos (by omega)]; done) | (rw [if_neg (by omega)]; done) | (rw [if_pos (by omega)]; rfl) | (rw [if_neg (by omega)]; rfl)⟩)
  · refine mm_iload_n dX1_formAt_12 rfl 1 rfl ?_
    refine mm_bipush (v := nI 48) dX1_formAt_13 (by decide) ?_
    refine mn_icmp_lt (tgt := 22) dX1_formAt_15 (by decide) (by omega) (by omega) (fun c15 => ?_) (fun c15 => ?_)
    · refine mm_aload_n dX1_formAt_22 rfl 0 rfl ?_
      refine cm_getR (b := 26) dX1_formAt_23 ha zr_X1_11 (by decide) rfl rfl rfl ?_
      refine mm_iload_n dX1_formAt_26 rfl 1 rfl ?_
      refine cm_iald (i := i) dX1_formAt_27 ha (by decide) rfl (by omega) (by decide) ?_
      exact mm_iret dX1_formAt_28 rfl (⟨rfl, by first | (rw [if_pos (by omega)]; done) | (rw [if_neg (by omega)]; done) | (rw [if_pos (by omega)]; rfl) | (rw [if_neg (by omega)]; rfl)⟩)
    · refine mm_iconst (v := (-1)) dX1_formAt_18 (by decide) ?_
      refine mm_goto (tgt := 28) dX1_formAt_19 (by decide) ?_
      exact mm_iret dX1_formAt_28 rfl (⟨rfl, by first | (rw [if_pos (by omega)]; done) | (rw [if_neg (by omega)]; done) | (rw [if_pos (by omega)]; rfl) | (rw [if_neg (by omega)]; rfl)⟩)
set_option maxRecDepth 100000 in
set_option maxHeartbeats 4000000 in
theorem cd_ticksAt {l : Launch} {D : va_G} {aa : Nat → ClassId} {b0 : Nat} {h : mm_H} {o : Nat} {X : Nat → Nat → Int32} {Y : Nat → Nat → Int64} {rl : Option Nat} {i : Nat} (ha : cm_at o X Y rl h) (hi : i < 2 ^ 31) : mm_V (zz_K l D aa b0) 0 yX1_ticksAt cX1_ticksAt 2 (some .int) 0 [(0, .ref (o + 25)), (1, .int (nI (i)))] [] h 0 0 (fun rv h' => h' = h ∧ rv = some (.int (if i < 24 then X 27 i else nI 0))) := by
  refine mm_iload_n dX1_ticksAt_0 rfl 1 rfl ?_
  refine mn_if_lt (tgt := 10) dX1_ticksAt_1 (by decide) (by omega) ?_
  refine mm_iload_n dX1_ticksAt_4 rfl 1 rfl ?_
  refine mm_bipush (v := nI 24) dX1_ticksAt_5 (by decide) ?_
  refine mn_icmp_lt (tgt := 14) dX1_ticksAt_7 (by decide) (by omega) (by omega) (fun c7 => ?_) (fun c7 => ?_)
  · refine mm_aload_n dX1_ticksAt_14 rfl 0 rfl ?_
    refine cm_getR (b := 27) dX1_ticksAt_15 ha zr_X1_15 (by decide) rfl rfl rfl ?_
    refine mm_iload_n dX1_ticksAt_18 rfl 1 rfl ?_
    refine cm_iald (i := i) dX1_ticksAt_19 ha (by decide) rfl (by omega) (by decide) ?_
    exact mm_iret dX1_ticksAt_20 rfl (⟨rfl, by first | (rw [if_pos (by omega)]; done) | (rw [if_neg (by omega)]; done) | (rw [if_pos (by omega)]; rfl) | (rw [if_neg (by omega)]; rfl)⟩)
  · refine mm_iconst (v := nI 0) dX1_ticksAt_10 (by decide) ?_
    refine mm_goto (tgt := 20) dX1_ticksAt_11 (by decide) ?_
    exact mm_iret dX1_ticksAt_20 rfl (⟨rfl, by first | (rw [if_pos (by omega)]; done) | (rw [if_neg (by omega)]; done) | (rw [if_pos (by omega)]; rfl) | (rw [if_neg (by omega)]; rfl)⟩)
set_option maxRecDepth 100000 in
set_option maxHeartbeats 4000000 in
theorem ck_isKind {l : Launch} {D : va_G} {aa : Nat → ClassId} {b0 : Nat} {h : mm_H} {k : Nat} (hk : k < 2 ^ 31) : mm_V (zz_K l D aa b0) 0 yX11_isKind cX11_isKind 1 (some .boolean) 0 [(0, .int (nI (k)))] [] h 0 0 (fun rv h' => h' = h ∧ rv = some (.int (nI (Bool.toNat (decide (k < 7)))))) := by
  refine mm_iload_n dX11_isKind_0 rfl 0 rfl ?_
  refine mn_if_lt (tgt := 14) dX11_isKind_1 (by decide) (by omega) ?_
  refine mm_iload_n dX11_isKind_4 rfl 0 rfl ?_
  refine mm_bipush (v := nI 7) dX11_isKind_5 (by decide) ?_
  refine mn_icmp_ge (tgt := 14) dX11_isKind_7 (by decide) (by omega) (by omega) (fun c7 => ?_) (fun c7 => ?_)
  · refine mm_iconst (v := nI 0) dX11_isKind_14 (by decide) ?_
    exact mm_zret dX11_isKind_15 rfl (by decide) (⟨rfl, by first | (rw [decide_eq_true (by omega)]; rfl) | (rw [decide_eq_false (by omega)]; rfl)⟩)
  · refine mm_iconst (v := nI 1) dX11_isKind_10 (by decide) ?_
    refine mm_goto (tgt := 15) dX11_isKind_11 (by decide) ?_
    exact mm_zret dX11_isKind_15 rfl (by decide) (⟨rfl, by first | (rw [decide_eq_true (by omega)]; rfl) | (rw [decide_eq_false (by omega)]; rfl)⟩)
set_option maxRecDepth 100000 in
set_option maxHeartbeats 4000000 in
theorem ck_isKindI {l : Launch} {D : va_G} {aa : Nat → ClassId} {b0 : Nat} {h : mm_H} {x : Int32}  : mm_V (zz_K l D aa b0) 0 yX11_isKind cX11_isKind 1 (some .boolean) 0 [(0, .int (x))] [] h 0 0 (fun rv h' => h' = h ∧ rv = some (.int (nI (Bool.toNat (decide (0 ≤ x ∧ x < nI 7)))))) := by
  refine mm_iload_n dX11_isKind_0 rfl 0 rfl ?_
  refine mm_if_lt (tgt := 14) dX11_isKind_1 (by decide) (fun c1 => ?_) (fun c1 => ?_)
  · refine mm_iconst (v := nI 0) dX11_isKind_14 (by decide) ?_
    exact mm_zret dX11_isKind_15 rfl (by decide) (⟨rfl, by first | (rw [decide_eq_true ⟨Int32.not_lt.mp c1, Int32.not_le.mp c7⟩]; rfl) | (rw [decide_eq_false (fun z => absurd c1 (Int32.not_lt.mpr z.1))]; rfl) | (rw [decide_eq_false (fun z => absurd c7 (Int32.not_le.mpr z.2))]; rfl)⟩)
  · refine mm_iload_n dX11_isKind_4 rfl 0 rfl ?_
    refine mm_bipush (v := nI 7) dX11_isKind_5 (by decide) ?_
    refine mm_icmp_ge (tgt := 14) dX11_isKind_7 (by decide) (fun c7 => ?_) (fun c7 => ?_)
    · refine mm_iconst (v := nI 0) dX11_isKind_14 (by decide) ?_
      exact mm_zret dX11_isKind_15 rfl (by decide) (⟨rfl, by first | (rw [decide_eq_true ⟨Int32.not_lt.mp c1, Int32.not_le.mp c7⟩]; rfl) | (rw [decide_eq_false (fun z => absurd c1 (Int32.not_lt.mpr z.1))]; rfl) | (rw [decide_eq_false (fun z => absurd c7 (Int32.not_le.mpr z.2))]; rfl)⟩)
    · refine mm_iconst (v := nI 1) dX11_isKind_10 (by decide) ?_
      refine mm_goto (tgt := 15) dX11_isKind_11 (by decide) ?_
      exact mm_zret dX11_isKind_15 rfl (by decide) (⟨rfl, by first | (rw [decide_eq_true ⟨Int32.not_lt.mp c1, Int32.not_le.mp c7⟩]; rfl) | (rw [decide_eq_false (fun z => absurd c1 (Int32.not_lt.mpr z.1))]; rfl) | (rw [decide_eq_false (fun z => absurd c7 (Int32.not_le.mpr z.2))]; rfl)⟩)
