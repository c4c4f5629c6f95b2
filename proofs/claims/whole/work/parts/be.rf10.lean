/-! the reference: voices that meet -/
theorem mt_0 {s : aS} {a b : Nat} {y z : gR} {i j : Nat} : mt1 s a b y z 0 i j = (decide (aSo s (24 * a + i) = 1) && (decide (aSo s (24 * b + j) = 1) && decide (aT s a y i = aT s b z j))) := by
  unfold mt1
  rw [decide_eq_true (show (0 : Nat) = 0 from rfl), Bool.true_or, Bool.and_true]
theorem mt_1 {s : aS} {a b : Nat} {y z : gR} {i j : Nat} : mt1 s a b y z 1 i j = (mt1 s a b y z 0 i j && swt (aPi s (24 * a + i)) (aPi s (24 * b + j))) := by
  rw [mt_0]
  unfold mt1
  rw [decide_eq_false (show ¬ (1 : Nat) = 0 by decide), Bool.false_or, Bool.and_assoc, Bool.and_assoc]
theorem i32_ab2 {x : Int} (h : x.natAbs < 1000) : (Int32.ofInt x < 0 → -Int32.ofInt x = nI x.natAbs) ∧ (¬ Int32.ofInt x < 0 → Int32.ofInt x = nI x.natAbs) := by
  have e := i32_abs h
  constructor
  · intro h0
    rw [if_neg (fun z => absurd h0 (Int32.not_lt.mpr z))] at e
    rw [← e, Int32.zero_sub]
  · intro h0
    rw [if_pos (Int32.not_lt.mp h0)] at e
    exact e
set_option maxRecDepth 100000 in
set_option maxHeartbeats 4000000 in
theorem tM_meetB1 {l : Launch} {D : va_G} {aa : Nat → ClassId} {b0 : Nat} {h : mm_H} {o : Nat} {F : Nat → Int32} {G : Nat → Int64} {A : Nat → Nat → Int32} {B : Nat → Nat → Int64} {s : aS} {v u w : Int32} (ha : rm_at o F G A B h) (hW : WF s) (hI : RI s F A B) (hv : v < 0 ∨ nI (aNv s) ≤ v) : mm_V (zz_K l D aa b0) 2 yX12_meet cX12_meet 12 (some .int) 0 [(0, .ref (o)), (1, .int (v)), (2, .int (u)), (3, .int (w))] [] h 0 0 (fun r h' => h' = h ∧ r = some (.int (-2))) := by
  refine mm_aload_n dX12_meet_0 rfl 0 rfl ?_
  refine mm_iload_n dX12_meet_1 rfl 1 rfl ?_
  refine rm_callVr (As := [.int (v)]) (rest := []) (d2 := 1) dX12_meet_2 ha zc_isVoice zc_isVoice_s rfl rfl rfl (Nat.le_of_ble_eq_true rfl) (Nat.le_of_ble_eq_true rfl) (by decide) (tM_isVoiceN ha hW hI hv) ?_
  refine mn_ifB_eq (tgt := 26) dX12_meet_5 (by decide) (fun c5 => ?_) (fun c5 => ?_)
  · refine mm_bipush (v := (-2)) dX12_meet_26 (by decide) ?_
    exact mm_iret dX12_meet_28 rfl (⟨rfl, rfl⟩)
  · cases c5
set_option maxRecDepth 100000 in
set_option maxHeartbeats 4000000 in
theorem tM_meetB3 {l : Launch} {D : va_G} {aa : Nat → ClassId} {b0 : Nat} {h : mm_H} {o : Nat} {F : Nat → Int32} {G : Nat → Int64} {A : Nat → Nat → Int32} {B : Nat → Nat → Int64} {s : aS} {u w : Int32} {n : Nat} (ha : rm_at o F G A B h) (hW : WF s) (hI : RI s F A B) (hn : n < aNv s) (hu : u < 0 ∨ nI (aNv s) ≤ u) : mm_V (zz_K l D aa b0) 2 yX12_meet cX12_meet 12 (some .int) 0 [(0, .ref (o)), (1, .int (nI (n))), (2, .int (u)), (3, .int (w))] [] h 0 0 (fun r h' => h' = h ∧ r = some (.int (-2))) := by
  refine mm_aload_n dX12_meet_0 rfl 0 rfl ?_
  refine mm_iload_n dX12_meet_1 rfl 1 rfl ?_
  refine rm_callVr (As := [.int (nI (n))]) (rest := []) (d2 := 1) dX12_meet_2 ha zc_isVoice zc_isVoice_s rfl rfl rfl (Nat.le_of_ble_eq_true rfl) (Nat.le_of_ble_eq_true rfl) (by decide) (tM_isVoice ha hW hI (nI_inb hn (by have := hW.1.1; omega))) ?_
  refine mn_ifB_eq (tgt := 26) dX12_meet_5 (by decide) (fun c5 => ?_) (fun c5 => ?_)
  · cases c5
  · refine mm_aload_n dX12_meet_8 rfl 0 rfl ?_
    refine mm_iload_n dX12_meet_9 rfl 2 rfl ?_
    refine rm_callVr (As := [.int (u)]) (rest := []) (d2 := 1) dX12_meet_10 ha zc_isVoice zc_isVoice_s rfl rfl rfl (Nat.le_of_ble_eq_true rfl) (Nat.le_of_ble_eq_true rfl) (by decide) (tM_isVoiceN ha hW hI hu) ?_
    refine mn_ifB_eq (tgt := 26) dX12_meet_13 (by decide) (fun c13 => ?_) (fun c13 => ?_)
    · refine mm_bipush (v := (-2)) dX12_meet_26 (by decide) ?_
      exact mm_iret dX12_meet_28 rfl (⟨rfl, rfl⟩)
    · cases c13
set_option maxRecDepth 100000 in
set_option maxHeartbeats 4000000 in
theorem tM_meetB4 {l : Launch} {D : va_G} {aa : Nat → ClassId} {b0 : Nat} {h : mm_H} {o : Nat} {F : Nat → Int32} {G : Nat → Int64} {A : Nat → Nat → Int32} {B : Nat → Nat → Int64} {s : aS} {w : Int32} {n p : Nat} (ha : rm_at o F G A B h) (hW : WF s) (hI : RI s F A B) (hn : n < aNv s) (hp : p < aNv s) (hw : w < 0 ∨ nI 2 ≤ w) : mm_V (zz_K l D aa b0) 2 yX12_meet cX12_meet 12 (some .int) 0 [(0, .ref (o)), (1, .int (nI (n))), (2, .int (nI (p))), (3, .int (w))] [] h 0 0 (fun r h' => h' = h ∧ r = some (.int (-2))) := by
  refine mm_aload_n dX12_meet_0 rfl 0 rfl ?_
  refine mm_iload_n dX12_meet_1 rfl 1 rfl ?_
  refine rm_callVr (As := [.int (nI (n))]) (rest := []) (d2 := 1) dX12_meet_2 ha zc_isVoice zc_isVoice_s rfl rfl rfl (Nat.le_of_ble_eq_true rfl) (Nat.le_of_ble_eq_true rfl) (by decide) (tM_isVoice ha hW hI (nI_inb hn (by have := hW.1.1; omega))) ?_
  refine mn_ifB_eq (tgt := 26) dX12_meet_5 (by decide) (fun c5 => ?_) (fun c5 => ?_)
  · cases c5
  · refine mm_aload_n dX12_meet_8 rfl 0 rfl ?_
    refine mm_iload_n dX12_meet_9 rfl 2 rfl ?_
    refine rm_callVr (As := [.int (nI (p))]) (rest := []) (d2 := 1) dX12_meet_10 ha zc_isVoice zc_isVoice_s rfl rfl rfl (Nat.le_of_ble_eq_true rfl) (Nat.le_of_ble_eq_true rfl) (by decide) (tM_isVoice ha hW hI (nI_inb hp (by have := hW.1.1; omega))) ?_
    refine mn_ifB_eq (tgt := 26) dX12_meet_13 (by decide) (fun c13 => ?_) (fun c13 => ?_)
    · cases c13
    · refine mm_iload_n dX12_meet_16 rfl 3 rfl ?_
      refine mm_i2l dX12_meet_17 ?_
      refine mm_lconst (v := lN 0) dX12_meet_18 (by decide) ?_
      refine mm_lconst (v := lN 1) dX12_meet_19 (by decide) ?_
      refine rm_callSr (As := [.long ((w).toInt64), .long (lN (0)), .long (lN (1))]) (rest := []) (d2 := 0) dX12_meet_20 zc_isIn rfl rfl (Nat.le_of_ble_eq_true rfl) (Nat.le_of_ble_eq_true rfl) (by decide) (tm_isIn _ _ _) ?_
      refine mn_top (u := .int (nI (Bool.toNat (false)))) (congrArg Value.int (in_f (a := 0) (b := 1) (by decide) (by decide) (by omega) (by omega) (fun q => by have := i32_out (by decide) hw; omega))) ?_
      refine mn_ifB_ne (tgt := 29) dX12_meet_23 (by decide) (fun c23 => ?_) (fun c23 => ?_)
      · cases c23
      · refine mm_bipush (v := (-2)) dX12_meet_26 (by decide) ?_
        exact mm_iret dX12_meet_28 rfl (⟨rfl, rfl⟩)
set_option maxRecDepth 100000 in
set_option maxHeartbeats 4000000 in
theorem tM_meetM {l : Launch} {D : va_G} {aa : Nat → ClassId} {b0 : Nat} {h : mm_H} {o : Nat} {F : Nat → Int32} {G : Nat → Int64} {A : Nat → Nat → Int32} {B : Nat → Nat → Int64} {s : aS} {n p w : Nat} (ha : rm_at o F G A B h) (hW : WF s) (hI : RI s F A B) (hn : n < aNv s) (hp : p < aNv s) (hw : w < 2) (hm : 1000 < (aR s n).length ∨ 1000 < (aR s p).length) : mm_V (zz_K l D aa b0) 10 yX12_meet cX12_meet 12 (some .int) 0 [(0, .ref (o)), (1, .int (nI (n))), (2, .int (nI (p))), (3, .int (nI (w)))] [] h 0 0 (fun r h' => r = some (.int (-4)) ∧ ∃ (F' : Nat → Int32) (G' : Nat → Int64) (A' : Nat → Nat → Int32) (B' : Nat → Nat → Int64), rm_at o F' G' A' B' h' ∧ rm_fr o h h' ∧ RI s F' A' B') := by
  have hf : rm_fr o h h := rm_fr.rf
  have hn6 : n < 6 := by have := hW.1.1; omega
  have hvok := hW.2.1 n hn6
  have hsz24 : aSz s n ≤ 24 := hvok.1.2
  have hn6P : p < 6 := by have := hW.1.1; omega
  have hvokP := hW.2.1 p hn6P
  have hsz24P : aSz s p ≤ 24 := hvokP.1.2
  by_cases ga : pfA (aR s n).length = 0
  · obtain ⟨hN, hL0⟩ := pfA_0 ga
    obtain ⟨y, hy⟩ := pk_ex hW hn6 hL0
    by_cases gb : pfA (aR s p).length = 0
    · obtain ⟨hNP, hL0P⟩ := pfA_0 gb
      obtain ⟨yP, hyP⟩ := pk_ex hW hn6P hL0P
      omega
    · have p5 := ((hI).1.2 n hn6).2.2.2.2.1
      refine mm_aload_n dX12_meet_0 rfl 0 rfl ?_
      refine mm_iload_n dX12_meet_1 rfl 1 rfl ?_
      refine rm_callVr (As := [.int (nI (n))]) (rest := []) (d2 := 1) dX12_meet_2 ha zc_isVoice zc_isVoice_s rfl rfl rfl (Nat.le_of_ble_eq_true rfl) (Nat.le_of_ble_eq_true rfl) (by decide) (tM_isVoice ha hW hI (nI_inb hn (by have := hW.1.1; omega))) ?_
      refine mn_ifB_eq (tgt := 26) dX12_meet_5 (by decide) (fun c5 => ?_) (fun c5 => ?_)
      · cases c5
      · refine mm_aload_n dX12_meet_8 rfl 0 rfl ?_
        refine mm_iload_n dX12_meet_9 rfl 2 rfl ?_
        refine rm_callVr (As := [.int (nI (p))]) (rest := []) (d2 := 1) dX12_meet_10 ha zc_isVoice zc_isVoice_s rfl rfl rfl (Nat.le_of_ble_eq_true rfl) (Nat.le_of_ble_eq_true rfl) (by decide) (tM_isVoice ha hW hI (nI_inb hp (by have := hW.1.1; omega))) ?_
        refine mn_ifB_eq (tgt := 26) dX12_meet_13 (by decide) (fun c13 => ?_) (fun c13 => ?_)
        · cases c13
        · refine mm_iload_n dX12_meet_16 rfl 3 rfl ?_
          refine mm_i2l dX12_meet_17 ?_
          refine mm_lconst (v := lN 0) dX12_meet_18 (by decide) ?_
          refine mm_lconst (v := lN 1) dX12_meet_19 (by decide) ?_
          refine rm_callSr (As := [.long ((nI (w)).toInt64), .long (lN (0)), .long (lN (1))]) (rest := []) (d2 := 0) dX12_meet_20 zc_isIn rfl rfl (Nat.le_of_ble_eq_true rfl) (Nat.le_of_ble_eq_true rfl) (by decide) (tm_isIn _ _ _) ?_
          refine mn_top (u := .int (nI (Bool.toNat (true)))) (congrArg Value.int (in_t (a := 0) (b := 1) (by decide) (by decide) (by omega) (by omega) ((nI_inb hw (by decide)).imp id (fun z => by omega)))) ?_
          refine mn_ifB_ne (tgt := 29) dX12_meet_23 (by decide) (fun c23 => ?_) (fun c23 => ?_)
          · refine mm_aload_n dX12_meet_29 rfl 0 rfl ?_
            refine mm_iload_n dX12_meet_30 rfl 1 rfl ?_
            refine mm_aload_n dX12_meet_31 rfl 0 rfl ?_
            refine rm_getA 5 dX12_meet_32 ha zf_pickedOf (by decide) rfl ?_
            refine mm_iload_n dX12_meet_35 rfl 1 rfl ?_
            refine rm_iald (k := 5) dX12_meet_36 ha rfl rfl rfl (show n < 6 from (by omega)) ?_
            refine mn_top (u := .int (nI (aPk s n))) (congrArg Value.int (p5)) ?_
            refine rm_callV (As := [.int (nI (n)), .int (nI (aPk s n))]) (rest := []) (d2 := 9) dX12_meet_37 ha zc_find zc_find_s rfl rfl rfl (Nat.le_of_ble_eq_true rfl) (Nat.le_of_ble_eq_true rfl) (by decide) (tM_find ha hW hI hn hN (pk_ltL hW hn6 hL0)) (fun r h1 hq => ?_)
            obtain ⟨q, y2, rfl, hq, hy2, F1, A1, ha, hf', hI1, -, hvl, -⟩ := hq
            have hf := hf.tr hf'
            have ey : y = y2 := Option.some.inj (hy.symm.trans hy2)
            subst ey
            have p5P := ((hI1).1.2 p hn6P).2.2.2.2.1
            refine mm_istore (L' := [(4, .int (nI (q))), (0, .ref (o)), (1, .int (nI (n))), (2, .int (nI (p))), (3, .int (nI (w)))]) dX12_meet_40 (by decide) rfl ?_
            refine mm_aload_n dX12_meet_42 rfl 1 rfl ?_
            refine mm_iload_n dX12_meet_43 rfl 3 rfl ?_
            refine mm_aload_n dX12_meet_44 rfl 1 rfl ?_
            refine rm_getA 5 dX12_meet_45 ha zf_pickedOf (by decide) rfl ?_
            refine mm_iload_n dX12_meet_48 rfl 3 rfl ?_
            refine rm_iald (k := 5) dX12_meet_49 ha rfl rfl rfl (show p < 6 from (by omega)) ?_
            refine mn_top (u := .int (nI (aPk s p))) (congrArg Value.int (p5P)) ?_
            refine rm_callV (As := [.int (nI (p)), .int (nI (aPk s p))]) (rest := []) (d2 := 9) dX12_meet_50 ha zc_find zc_find_s rfl rfl rfl (Nat.le_of_ble_eq_true rfl) (Nat.le_of_ble_eq_true rfl) (by decide) (tM_findR ha hW hI1 hp (by rw [pf_rf hvokP.2.2.2.2.2.2]; exact gb)) (fun r h1 hq => ?_)
            obtain ⟨rfl, F2, A2, ha, hf', hI2⟩ := hq
            have hf := hf.tr hf'
            rw [pf_rf hvokP.2.2.2.2.2.2]
            refine mm_istore (L' := [(5, .int (pfA (aR s p).length)), (4, .int (nI (q))), (0, .ref (o)), (1, .int (nI (n))), (2, .int (nI (p))), (3, .int (nI (w)))]) dX12_meet_53 (by decide) rfl ?_
            refine mm_iload dX12_meet_55 1 rfl ?_
            refine mm_bipush (v := (-4)) dX12_meet_57 (by decide) ?_
            refine mm_icmp_eq (tgt := 69) dX12_meet_59 (by decide) (fun c59 => ?_) (fun c59 => ?_)
            · exact absurd c59 (nI_n4 (by omega))
            · refine mm_iload dX12_meet_62 0 rfl ?_
              refine mm_bipush (v := (-4)) dX12_meet_64 (by decide) ?_
              refine mm_icmp_ne (tgt := 72) dX12_meet_66 (by decide) (fun c66 => ?_) (fun c66 => ?_)
              · exact False.elim (hm.elim (fun q => by omega) (fun q => absurd (pfA_m.mpr q) c66))
              · refine mm_bipush (v := (-4)) dX12_meet_69 (by decide) ?_
                exact mm_iret dX12_meet_71 rfl (⟨rfl, F2, _, A2, B, ha, hf, hI2⟩)
          · cases c23
  · by_cases gb : pfA (aR s p).length = 0
    · obtain ⟨hNP, hL0P⟩ := pfA_0 gb
      obtain ⟨yP, hyP⟩ := pk_ex hW hn6P hL0P
      have p5 := ((hI).1.2 n hn6).2.2.2.2.1
      refine mm_aload_n dX12_meet_0 rfl 0 rfl ?_
      refine mm_iload_n dX12_meet_1 rfl 1 rfl ?_
      refine rm_callVr (As := [.int (nI (n))]) (rest := []) (d2 := 1) dX12_meet_2 ha zc_isVoice zc_isVoice_s rfl rfl rfl (Nat.le_of_ble_eq_true rfl) (Nat.le_of_ble_eq_true rfl) (by decide) (tM_isVoice ha hW hI (nI_inb hn (by have := hW.1.1; omega))) ?_
      refine mn_ifB_eq (tgt := 26) dX12_meet_5 (by decide) (fun c5 => ?_) (fun c5 => ?_)
      · cases c5
      · refine mm_aload_n dX12_meet_8 rfl 0 rfl ?_
        refine mm_iload_n dX12_meet_9 rfl 2 rfl ?_
        refine rm_callVr (As := [.int (nI (p))]) (rest := []) (d2 := 1) dX12_meet_10 ha zc_isVoice zc_isVoice_s rfl rfl rfl (Nat.le_of_ble_eq_true rfl) (Nat.le_of_ble_eq_true rfl) (by decide) (tM_isVoice ha hW hI (nI_inb hp (by have := hW.1.1; omega))) ?_
        refine mn_ifB_eq (tgt := 26) dX12_meet_13 (by decide) (fun c13 => ?_) (fun c13 => ?_)
        · cases c13
        · refine mm_iload_n dX12_meet_16 rfl 3 rfl ?_
          refine mm_i2l dX12_meet_17 ?_
          refine mm_lconst (v := lN 0) dX12_meet_18 (by decide) ?_
          refine mm_lconst (v := lN 1) dX12_meet_19 (by decide) ?_
          refine rm_callSr (As := [.long ((nI (w)).toInt64), .long (lN (0)), .long (lN (1))]) (rest := []) (d2 := 0) dX12_meet_20 zc_isIn rfl rfl (Nat.le_of_ble_eq_true rfl) (Nat.le_of_ble_eq_true rfl) (by decide) (tm_isIn _ _ _) ?_
          refine mn_top (u := .int (nI (Bool.toNat (true)))) (congrArg Value.int (in_t (a := 0) (b := 1) (by decide) (by decide) (by omega) (by omega) ((nI_inb hw (by decide)).imp id (fun z => by omega)))) ?_
          refine mn_ifB_ne (tgt := 29) dX12_meet_23 (by decide) (fun c23 => ?_) (fun c23 => ?_)
          · refine mm_aload_n dX12_meet_29 rfl 0 rfl ?_
            refine mm_iload_n dX12_meet_30 rfl 1 rfl ?_
            refine mm_aload_n dX12_meet_31 rfl 0 rfl ?_
            refine rm_getA 5 dX12_meet_32 ha zf_pickedOf (by decide) rfl ?_
            refine mm_iload_n dX12_meet_35 rfl 1 rfl ?_
            refine rm_iald (k := 5) dX12_meet_36 ha rfl rfl rfl (show n < 6 from (by omega)) ?_
            refine mn_top (u := .int (nI (aPk s n))) (congrArg Value.int (p5)) ?_
            refine rm_callV (As := [.int (nI (n)), .int (nI (aPk s n))]) (rest := []) (d2 := 9) dX12_meet_37 ha zc_find zc_find_s rfl rfl rfl (Nat.le_of_ble_eq_true rfl) (Nat.le_of_ble_eq_true rfl) (by decide) (tM_findR ha hW hI hn (by rw [pf_rf hvok.2.2.2.2.2.2]; exact ga)) (fun r h1 hq => ?_)
            obtain ⟨rfl, F1, A1, ha, hf', hI1⟩ := hq
            have hf := hf.tr hf'
            rw [pf_rf hvok.2.2.2.2.2.2]
            have p5P := ((hI1).1.2 p hn6P).2.2.2.2.1
            refine mm_istore (L' := [(4, .int (pfA (aR s n).length)), (0, .ref (o)), (1, .int (nI (n))), (2, .int (nI (p))), (3, .int (nI (w)))]) dX12_meet_40 (by decide) rfl ?_
            refine mm_aload_n dX12_meet_42 rfl 1 rfl ?_
            refine mm_iload_n dX12_meet_43 rfl 3 rfl ?_
            refine mm_aload_n dX12_meet_44 rfl 1 rfl ?_
            refine rm_getA 5 dX12_meet_45 ha zf_pickedOf (by decide) rfl ?_
            refine mm_iload_n dX12_meet_48 rfl 3 rfl ?_
            refine rm_iald (k := 5) dX12_meet_49 ha rfl rfl rfl (show p < 6 from (by omega)) ?_
            refine mn_top (u := .int (nI (aPk s p))) (congrArg Value.int (p5P)) ?_
            refine rm_callV (As := [.int (nI (p)), .int (nI (aPk s p))]) (rest := []) (d2 := 9) dX12_meet_50 ha zc_find zc_find_s rfl rfl rfl (Nat.le_of_ble_eq_true rfl) (Nat.le_of_ble_eq_true rfl) (by decide) (tM_find ha hW hI1 hp hNP (pk_ltL hW hn6P hL0P)) (fun r h1 hq => ?_)
            obtain ⟨qP, y2, rfl, hqP, hy2, F2, A2, ha, hf', hI2, -, hvlP, -⟩ := hq
            have hf := hf.tr hf'
            have ey : yP = y2 := Option.some.inj (hyP.symm.trans hy2)
            subst ey
            refine mm_istore (L' := [(5, .int (nI (qP))), (4, .int (pfA (aR s n).length)), (0, .ref (o)), (1, .int (nI (n))), (2, .int (nI (p))), (3, .int (nI (w)))]) dX12_meet_53 (by decide) rfl ?_
            refine mm_iload dX12_meet_55 1 rfl ?_
            refine mm_bipush (v := (-4)) dX12_meet_57 (by decide) ?_
            refine mm_icmp_eq (tgt := 69) dX12_meet_59 (by decide) (fun c59 => ?_) (fun c59 => ?_)
            · refine mm_bipush (v := (-4)) dX12_meet_69 (by decide) ?_
              exact mm_iret dX12_meet_71 rfl (⟨rfl, F2, _, A2, B, ha, hf, hI2⟩)
            · exact False.elim (hm.elim (fun q => absurd (pfA_m.mpr q) c59) (fun q => by omega))
          · cases c23
    · have p5 := ((hI).1.2 n hn6).2.2.2.2.1
      refine mm_aload_n dX12_meet_0 rfl 0 rfl ?_
      refine mm_iload_n dX12_meet_1 rfl 1 rfl ?_
      refine rm_callVr (As := [.int (nI (n))]) (rest := []) (d2 := 1) dX12_meet_2 ha zc_isVoice zc_isVoice_s rfl rfl rfl (Nat.le_of_ble_eq_true rfl) (Nat.le_of_ble_eq_true rfl) (by decide) (tM_isVoice ha hW hI (nI_inb hn (by have := hW.1.1; omega))) ?_
      refine mn_ifB_eq (tgt := 26) dX12_meet_5 (by decide) (fun c5 => ?_) (fun c5 => ?_)
      · cases c5
      · refine mm_aload_n dX12_meet_8 rfl 0 rfl ?_
        refine mm_iload_n dX12_meet_9 rfl 2 rfl ?_
        refine rm_callVr (As := [.int (nI (p))]) (rest := []) (d2 := 1) dX12_meet_10 ha zc_isVoice zc_isVoice_s rfl rfl rfl (Nat.le_of_ble_eq_true rfl) (Nat.le_of_ble_eq_true rfl) (by decide) (tM_isVoice ha hW hI (nI_inb hp (by have := hW.1.1; omega))) ?_
        refine mn_ifB_eq (tgt := 26) dX12_meet_13 (by decide) (fun c13 => ?_) (fun c13 => ?_)
        · cases c13
        · refine mm_iload_n dX12_meet_16 rfl 3 rfl ?_
          refine mm_i2l dX12_meet_17 ?_
          refine mm_lconst (v := lN 0) dX12_meet_18 (by decide) ?_
          refine mm_lconst (v := lN 1) dX12_meet_19 (by decide) ?_
          refine rm_callSr (As := [.long ((nI (w)).toInt64), .long (lN (0)), .long (lN (1))]) (rest := []) (d2 := 0) dX12_meet_20 zc_isIn rfl rfl (Nat.le_of_ble_eq_true rfl) (Nat.le_of_ble_eq_true rfl) (by decide) (tm_isIn _ _ _) ?_
          refine mn_top (u := .int (nI (Bool.toNat (true)))) (congrArg Value.int (in_t (a := 0) (b := 1) (by decide) (by decide) (by omega) (by omega) ((nI_inb hw (by decide)).imp id (fun z => by omega)))) ?_
          refine mn_ifB_ne (tgt := 29) dX12_meet_23 (by decide) (fun c23 => ?_) (fun c23 => ?_)
          · refine mm_aload_n dX12_meet_29 rfl 0 rfl ?_
            refine mm_iload_n dX12_meet_30 rfl 1 rfl ?_
            refine mm_aload_n dX12_meet_31 rfl 0 rfl ?_
            refine rm_getA 5 dX12_meet_32 ha zf_pickedOf (by decide) rfl ?_
            refine mm_iload_n dX12_meet_35 rfl 1 rfl ?_
            refine rm_iald (k := 5) dX12_meet_36 ha rfl rfl rfl (show n < 6 from (by omega)) ?_
            refine mn_top (u := .int (nI (aPk s n))) (congrArg Value.int (p5)) ?_
            refine rm_callV (As := [.int (nI (n)), .int (nI (aPk s n))]) (rest := []) (d2 := 9) dX12_meet_37 ha zc_find zc_find_s rfl rfl rfl (Nat.le_of_ble_eq_true rfl) (Nat.le_of_ble_eq_true rfl) (by decide) (tM_findR ha hW hI hn (by rw [pf_rf hvok.2.2.2.2.2.2]; exact ga)) (fun r h1 hq => ?_)
            obtain ⟨rfl, F1, A1, ha, hf', hI1⟩ := hq
            have hf := hf.tr hf'
            rw [pf_rf hvok.2.2.2.2.2.2]
            have p5P := ((hI1).1.2 p hn6P).2.2.2.2.1
            refine mm_istore (L' := [(4, .int (pfA (aR s n).length)), (0, .ref (o)), (1, .int (nI (n))), (2, .int (nI (p))), (3, .int (nI (w)))]) dX12_meet_40 (by decide) rfl ?_
            refine mm_aload_n dX12_meet_42 rfl 1 rfl ?_
            refine mm_iload_n dX12_meet_43 rfl 3 rfl ?_
            refine mm_aload_n dX12_meet_44 rfl 1 rfl ?_
            refine rm_getA 5 dX12_meet_45 ha zf_pickedOf (by decide) rfl ?_
            refine mm_iload_n dX12_meet_48 rfl 3 rfl ?_
            refine rm_iald (k := 5) dX12_meet_49 ha rfl rfl rfl (show p < 6 from (by omega)) ?_
            refine mn_top (u := .int (nI (aPk s p))) (congrArg Value.int (p5P)) ?_
            refine rm_callV (As := [.int (nI (p)), .int (nI (aPk s p))]) (rest := []) (d2 := 9) dX12_meet_50 ha zc_find zc_find_s rfl rfl rfl (Nat.le_of_ble_eq_true rfl) (Nat.le_of_ble_eq_true rfl) (by decide) (tM_findR ha hW hI1 hp (by rw [pf_rf hvokP.2.2.2.2.2.2]; exact gb)) (fun r h1 hq => ?_)
            obtain ⟨rfl, F2, A2, ha, hf', hI2⟩ := hq
            have hf := hf.tr hf'
            rw [pf_rf hvokP.2.2.2.2.2.2]
            refine mm_istore (L' := [(5, .int (pfA (aR s p).length)), (4, .int (pfA (aR s n).length)), (0, .ref (o)), (1, .int (nI (n))), (2, .int (nI (p))), (3, .int (nI (w)))]) dX12_meet_53 (by decide) rfl ?_
            refine mm_iload dX12_meet_55 1 rfl ?_
            refine mm_bipush (v := (-4)) dX12_meet_57 (by decide) ?_
            refine mm_icmp_eq (tgt := 69) dX12_meet_59 (by decide) (fun c59 => ?_) (fun c59 => ?_)
            · refine mm_bipush (v := (-4)) dX12_meet_69 (by decide) ?_
              exact mm_iret dX12_meet_71 rfl (⟨rfl, F2, _, A2, B, ha, hf, hI2⟩)
            · refine mm_iload dX12_meet_62 0 rfl ?_
              refine mm_bipush (v := (-4)) dX12_meet_64 (by decide) ?_
              refine mm_icmp_ne (tgt := 72) dX12_meet_66 (by decide) (fun c66 => ?_) (fun c66 => ?_)
              · exact False.elim (hm.elim (fun q => absurd (pfA_m.mpr q) c59) (fun q => absurd (pfA_m.mpr q) c66))
              · refine mm_bipush (v := (-4)) dX12_meet_69 (by decide) ?_
                exact mm_iret dX12_meet_71 rfl (⟨rfl, F2, _, A2, B, ha, hf, hI2⟩)
          · cases c23
set_option maxRecDepth 100000 in
set_option maxHeartbeats 4000000 in
theorem tM_meetN {l : Launch} {D : va_G} {aa : Nat → ClassId} {b0 : Nat} {h : mm_H} {o : Nat} {F : Nat → Int32} {G : Nat → Int64} {A : Nat → Nat → Int32} {B : Nat → Nat → Int64} {s : aS} {n p w : Nat} (ha : rm_at o F G A B h) (hW : WF s) (hI : RI s F A B) (hn : n < aNv s) (hp : p < aNv s) (hw : w < 2) (hm1 : (aR s n).length ≤ 1000) (hm2 : (aR s p).length ≤ 1000) (h0 : pfA (aR s n).length ≠ 0 ∨ pfA (aR s p).length ≠ 0) : mm_V (zz_K l D aa b0) 10 yX12_meet cX12_meet 12 (some .int) 0 [(0, .ref (o)), (1, .int (nI (n))), (2, .int (nI (p))), (3, .int (nI (w)))] [] h 0 0 (fun r h' => r = some (.int (-1)) ∧ ∃ (F' : Nat → Int32) (G' : Nat → Int64) (A' : Nat → Nat → Int32) (B' : Nat → Nat → Int64), rm_at o F' G' A' B' h' ∧ rm_fr o h h' ∧ RI s F' A' B') := by
  have hf : rm_fr o h h := rm_fr.rf
  have hn6 : n < 6 := by have := hW.1.1; omega
  have hvok := hW.2.1 n hn6
  have hsz24 : aSz s n ≤ 24 := hvok.1.2
  have hn6P : p < 6 := by have := hW.1.1; omega
  have hvokP := hW.2.1 p hn6P
  have hsz24P : aSz s p ≤ 24 := hvokP.1.2
  by_cases ga : pfA (aR s n).length = 0
  · obtain ⟨hN, hL0⟩ := pfA_0 ga
    obtain ⟨y, hy⟩ := pk_ex hW hn6 hL0
    by_cases gb : pfA (aR s p).length = 0
    · obtain ⟨hNP, hL0P⟩ := pfA_0 gb
      obtain ⟨yP, hyP⟩ := pk_ex hW hn6P hL0P
      exact False.elim (h0.elim (fun q => q ga) (fun q => q gb))
    · have p5 := ((hI).1.2 n hn6).2.2.2.2.1
      refine mm_aload_n dX12_meet_0 rfl 0 rfl ?_
      refine mm_iload_n dX12_meet_1 rfl 1 rfl ?_
      refine rm_callVr (As := [.int (nI (n))]) (rest := []) (d2 := 1) dX12_meet_2 ha zc_isVoice zc_isVoice_s rfl rfl rfl (Nat.le_of_ble_eq_true rfl) (Nat.le_of_ble_eq_true rfl) (by decide) (tM_isVoice ha hW hI (nI_inb hn (by have := hW.1.1; omega))) ?_
      refine mn_ifB_eq (tgt := 26) dX12_meet_5 (by decide) (fun c5 => ?_) (fun c5 => ?_)
      · cases c5
      · refine mm_aload_n dX12_meet_8 rfl 0 rfl ?_
        refine mm_iload_n dX12_meet_9 rfl 2 rfl ?_
        refine rm_callVr (As := [.int (nI (p))]) (rest := []) (d2 := 1) dX12_meet_10 ha zc_isVoice zc_isVoice_s rfl rfl rfl (Nat.le_of_ble_eq_true rfl) (Nat.le_of_ble_eq_true rfl) (by decide) (tM_isVoice ha hW hI (nI_inb hp (by have := hW.1.1; omega))) ?_
        refine mn_ifB_eq (tgt := 26) dX12_meet_13 (by decide) (fun c13 => ?_) (fun c13 => ?_)
        · cases c13
        · refine mm_iload_n dX12_meet_16 rfl 3 rfl ?_
          refine mm_i2l dX12_meet_17 ?_
          refine mm_lconst (v := lN 0) dX12_meet_18 (by decide) ?_
          refine mm_lconst (v := lN 1) dX12_meet_19 (by decide) ?_
          refine rm_callSr (As := [.long ((nI (w)).toInt64), .long (lN (0)), .long (lN (1))]) (rest := []) (d2 := 0) dX12_meet_20 zc_isIn rfl rfl (Nat.le_of_ble_eq_true rfl) (Nat.le_of_ble_eq_true rfl) (by decide) (tm_isIn _ _ _) ?_
          refine mn_top (u := .int (nI (Bool.toNat (true)))) (congrArg Value.int (in_t (a := 0) (b := 1) (by decide) (by decide) (by omega) (by omega) ((nI_inb hw (by decide)).imp id (fun z => by omega)))) ?_
          refine mn_ifB_ne (tgt := 29) dX12_meet_23 (by decide) (fun c23 => ?_) (fun c23 => ?_)
          · refine mm_aload_n dX12_meet_29 rfl 0 rfl ?_
            refine mm_iload_n dX12_meet_30 rfl 1 rfl ?_
            refine mm_aload_n dX12_meet_31 rfl 0 rfl ?_
            refine rm_getA 5 dX12_meet_32 ha zf_pickedOf (by decide) rfl ?_
            refine mm_iload_n dX12_meet_35 rfl 1 rfl ?_
            refine rm_iald (k := 5) dX12_meet_36 ha rfl rfl rfl (show n < 6 from (by omega)) ?_
            refine mn_top (u := .int (nI (aPk s n))) (congrArg Value.int (p5)) ?_
            refine rm_callV (As := [.int (nI (n)), .int (nI (aPk s n))]) (rest := []) (d2 := 9) dX12_meet_37 ha zc_find zc_find_s rfl rfl rfl (Nat.le_of_ble_eq_true rfl) (Nat.le_of_ble_eq_true rfl) (by decide) (tM_find ha hW hI hn hN (pk_ltL hW hn6 hL0)) (fun r h1 hq => ?_)
            obtain ⟨q, y2, rfl, hq, hy2, F1, A1, ha, hf', hI1, -, hvl, -⟩ := hq
            have hf := hf.tr hf'
            have ey : y = y2 := Option.some.inj (hy.symm.trans hy2)
            subst ey
            have p5P := ((hI1).1.2 p hn6P).2.2.2.2.1
            refine mm_istore (L' := [(4, .int (nI (q))), (0, .ref (o)), (1, .int (nI (n))), (2, .int (nI (p))), (3, .int (nI (w)))]) dX12_meet_40 (by decide) rfl ?_
            refine mm_aload_n dX12_meet_42 rfl 1 rfl ?_
            refine mm_iload_n dX12_meet_43 rfl 3 rfl ?_
            refine mm_aload_n dX12_meet_44 rfl 1 rfl ?_
            refine rm_getA 5 dX12_meet_45 ha zf_pickedOf (by decide) rfl ?_
            refine mm_iload_n dX12_meet_48 rfl 3 rfl ?_
            refine rm_iald (k := 5) dX12_meet_49 ha rfl rfl rfl (show p < 6 from (by omega)) ?_
            refine mn_top (u := .int (nI (aPk s p))) (congrArg Value.int (p5P)) ?_
            refine rm_callV (As := [.int (nI (p)), .int (nI (aPk s p))]) (rest := []) (d2 := 9) dX12_meet_50 ha zc_find zc_find_s rfl rfl rfl (Nat.le_of_ble_eq_true rfl) (Nat.le_of_ble_eq_true rfl) (by decide) (tM_findR ha hW hI1 hp (by rw [pf_rf hvokP.2.2.2.2.2.2]; exact gb)) (fun r h1 hq => ?_)
            obtain ⟨rfl, F2, A2, ha, hf', hI2⟩ := hq
            have hf := hf.tr hf'
            rw [pf_rf hvokP.2.2.2.2.2.2]
            refine mm_istore (L' := [(5, .int (pfA (aR s p).length)), (4, .int (nI (q))), (0, .ref (o)), (1, .int (nI (n))), (2, .int (nI (p))), (3, .int (nI (w)))]) dX12_meet_53 (by decide) rfl ?_
            refine mm_iload dX12_meet_55 1 rfl ?_
            refine mm_bipush (v := (-4)) dX12_meet_57 (by decide) ?_
            refine mm_icmp_eq (tgt := 69) dX12_meet_59 (by decide) (fun c59 => ?_) (fun c59 => ?_)
            · exact absurd c59 (nI_n4 (by omega))
            · refine mm_iload dX12_meet_62 0 rfl ?_
              refine mm_bipush (v := (-4)) dX12_meet_64 (by decide) ?_
              refine mm_icmp_ne (tgt := 72) dX12_meet_66 (by decide) (fun c66 => ?_) (fun c66 => ?_)
              · refine mm_iload dX12_meet_72 1 rfl ?_
                refine mn_if_lt (tgt := 82) dX12_meet_74 (by decide) (by omega) ?_
                refine mm_iload dX12_meet_77 0 rfl ?_
                refine mm_if_ge (tgt := 84) dX12_meet_79 (by decide) (fun c79 => ?_) (fun c79 => ?_)
                · exact absurd (pfA_neg gb) (Int32.not_lt.mpr c79)
                · refine mm_iconst (v := (-1)) dX12_meet_82 (by decide) ?_
                  exact mm_iret dX12_meet_83 rfl (⟨rfl, F2, _, A2, B, ha, hf, hI2⟩)
              · exact absurd (pfA_m.mp c66) (by omega)
          · cases c23
  · by_cases gb : pfA (aR s p).length = 0
    · obtain ⟨hNP, hL0P⟩ := pfA_0 gb
      obtain ⟨yP, hyP⟩ := pk_ex hW hn6P hL0P
      have p5 := ((hI).1.2 n hn6).2.2.2.2.1
      refine mm_aload_n dX12_meet_0 rfl 0 rfl ?_
      refine mm_iload_n dX12_meet_1 rfl 1 rfl ?_
      refine rm_callVr (As := [.int (nI (n))]) (rest := []) (d2 := 1) dX12_meet_2 ha zc_isVoice zc_isVoice_s rfl rfl rfl (Nat.le_of_ble_eq_true rfl) (Nat.le_of_ble_eq_true rfl) (by decide) (tM_isVoice ha hW hI (nI_inb hn (by have := hW.1.1; omega))) ?_
      refine mn_ifB_eq (tgt := 26) dX12_meet_5 (by decide) (fun c5 => ?_) (fun c5 => ?_)
      · cases c5
      · refine mm_aload_n dX12_meet_8 rfl 0 rfl ?_
        refine mm_iload_n dX12_meet_9 rfl 2 rfl ?_
        refine rm_callVr (As := [.int (nI (p))]) (rest := []) (d2 := 1) dX12_meet_10 ha zc_isVoice zc_isVoice_s rfl rfl rfl (Nat.le_of_ble_eq_true rfl) (Nat.le_of_ble_eq_true rfl) (by decide) (tM_isVoice ha hW hI (nI_inb hp (by have := hW.1.1; omega))) ?_
        refine mn_ifB_eq (tgt := 26) dX12_meet_13 (by decide) (fun c13 => ?_) (fun c13 => ?_)
        · cases c13
        · refine mm_iload_n dX12_meet_16 rfl 3 rfl ?_
          refine mm_i2l dX12_meet_17 ?_
          refine mm_lconst (v := lN 0) dX12_meet_18 (by decide) ?_
          refine mm_lconst (v := lN 1) dX12_meet_19 (by decide) ?_
          refine rm_callSr (As := [.long ((nI (w)).toInt64), .long (lN (0)), .long (lN (1))]) (rest := []) (d2 := 0) dX12_meet_20 zc_isIn rfl rfl (Nat.le_of_ble_eq_true rfl) (Nat.le_of_ble_eq_true rfl) (by decide) (tm_isIn _ _ _) ?_
          refine mn_top (u := .int (nI (Bool.toNat (true)))) (congrArg Value.int (in_t (a := 0) (b := 1) (by decide) (by decide) (by omega) (by omega) ((nI_inb hw (by decide)).imp id (fun z => by omega)))) ?_
          refine mn_ifB_ne (tgt := 29) dX12_meet_23 (by decide) (fun c23 => ?_) (fun c23 => ?_)
          · refine mm_aload_n dX12_meet_29 rfl 0 rfl ?_
            refine mm_iload_n dX12_meet_30 rfl 1 rfl ?_
            refine mm_aload_n dX12_meet_31 rfl 0 rfl ?_
            refine rm_getA 5 dX12_meet_32 ha zf_pickedOf (by decide) rfl ?_
            refine mm_iload_n dX12_meet_35 rfl 1 rfl ?_
            refine rm_iald (k := 5) dX12_meet_36 ha rfl rfl rfl (show n < 6 from (by omega)) ?_
            refine mn_top (u := .int (nI (aPk s n))) (congrArg Value.int (p5)) ?_
            refine rm_callV (As := [.int (nI (n)), .int (nI (aPk s n))]) (rest := []) (d2 := 9) dX12_meet_37 ha zc_find zc_find_s rfl rfl rfl (Nat.le_of_ble_eq_true rfl) (Nat.le_of_ble_eq_true rfl) (by decide) (tM_findR ha hW hI hn (by rw [pf_rf hvok.2.2.2.2.2.2]; exact ga)) (fun r h1 hq => ?_)
            obtain ⟨rfl, F1, A1, ha, hf', hI1⟩ := hq
            have hf := hf.tr hf'
            rw [pf_rf hvok.2.2.2.2.2.2]
            have p5P := ((hI1).1.2 p hn6P).2.2.2.2.1
            refine mm_istore (L' := [(4, .int (pfA (aR s n).length)), (0, .ref (o)), (1, .int (nI (n))), (2, .int (nI (p))), (3, .int (nI (w)))]) dX12_meet_40 (by decide) rfl ?_
            refine mm_aload_n dX12_meet_42 rfl 1 rfl ?_
            refine mm_iload_n dX12_meet_43 rfl 3 rfl ?_
            refine mm_aload_n dX12_meet_44 rfl 1 rfl ?_
            refine rm_getA 5 dX12_meet_45 ha zf_pickedOf (by decide) rfl ?_
            refine mm_iload_n dX12_meet_48 rfl 3 rfl ?_
            refine rm_iald (k := 5) dX12_meet_49 ha rfl rfl rfl (show p < 6 from (by omega)) ?_
            refine mn_top (u := .int (nI (aPk s p))) (congrArg Value.int (p5P)) ?_
            refine rm_callV (As := [.int (nI (p)), .int (nI (aPk s p))]) (rest := []) (d2 := 9) dX12_meet_50 ha zc_find zc_find_s rfl rfl rfl (Nat.le_of_ble_eq_true rfl) (Nat.le_of_ble_eq_true rfl) (by decide) (tM_find ha hW hI1 hp hNP (pk_ltL hW hn6P hL0P)) (fun r h1 hq => ?_)
            obtain ⟨qP, y2, rfl, hqP, hy2, F2, A2, ha, hf', hI2, -, hvlP, -⟩ := hq
            have hf := hf.tr hf'
            have ey : yP = y2 := Option.some.inj (hyP.symm.trans hy2)
            subst ey
            refine mm_istore (L' := [(5, .int (nI (qP))), (4, .int (pfA (aR s n).length)), (0, .ref (o)), (1, .int (nI (n))), (2, .int (nI (p))), (3, .int (nI (w)))]) dX12_meet_53 (by decide) rfl ?_
            refine mm_iload dX12_meet_55 1 rfl ?_
            refine mm_bipush (v := (-4)) dX12_meet_57 (by decide) ?_
            refine mm_icmp_eq (tgt := 69) dX12_meet_59 (by decide) (fun c59 => ?_) (fun c59 => ?_)
            · exact absurd (pfA_m.mp c59) (by omega)
            · refine mm_iload dX12_meet_62 0 rfl ?_
              refine mm_bipush (v := (-4)) dX12_meet_64 (by decide) ?_
              refine mm_icmp_ne (tgt := 72) dX12_meet_66 (by decide) (fun c66 => ?_) (fun c66 => ?_)
              · refine mm_iload dX12_meet_72 1 rfl ?_
                refine mm_if_lt (tgt := 82) dX12_meet_74 (by decide) (fun c74 => ?_) (fun c74 => ?_)
                · refine mm_iconst (v := (-1)) dX12_meet_82 (by decide) ?_
                  exact mm_iret dX12_meet_83 rfl (⟨rfl, F2, _, A2, B, ha, hf, hI2⟩)
                · exact absurd (pfA_neg ga) c74
              · exact absurd c66 (nI_n4 (by omega))
          · cases c23
    · have p5 := ((hI).1.2 n hn6).2.2.2.2.1
      refine mm_aload_n dX12_meet_0 rfl 0 rfl ?_
      refine mm_iload_n dX12_meet_1 rfl 1 rfl ?_
      refine rm_callVr (As := [.int (nI (n))]) (rest := []) (d2 := 1) dX12_meet_2 ha zc_isVoice zc_isVoice_s rfl rfl rfl (Nat.le_of_ble_eq_true rfl) (Nat.le_of_ble_eq_true rfl) (by decide) (tM_isVoice ha hW hI (nI_inb hn (by have := hW.1.1; omega))) ?_
      refine mn_ifB_eq (tgt := 26) dX12_meet_5 (by decide) (fun c5 => ?_) (fun c5 => ?_)
      · cases c5
      · refine mm_aload_n dX12_meet_8 rfl 0 rfl ?_
        refine mm_iload_n dX12_meet_9 rfl 2 rfl ?_
        refine rm_callVr (As := [.int (nI (p))]) (rest := []) (d2 := 1) dX12_meet_10 ha zc_isVoice zc_isVoice_s rfl rfl rfl (Nat.le_of_ble_eq_true rfl) (Nat.le_of_ble_eq_true rfl) (by decide) (tM_isVoice ha hW hI (nI_inb hp (by have := hW.1.1; omega))) ?_
        refine mn_ifB_eq (tgt := 26) dX12_meet_13 (by decide) (fun c13 => ?_) (fun c13 => ?_)
        · cases c13
        · refine mm_iload_n dX12_meet_16 rfl 3 rfl ?_
          refine mm_i2l dX12_meet_17 ?_
          refine mm_lconst (v := lN 0) dX12_meet_18 (by decide) ?_
          refine mm_lconst (v := lN 1) dX12_meet_19 (by decide) ?_
          refine rm_callSr (As := [.long ((nI (w)).toInt64), .long (lN (0)), .long (lN (1))]) (rest := []) (d2 := 0) dX12_meet_20 zc_isIn rfl rfl (Nat.le_of_ble_eq_true rfl) (Nat.le_of_ble_eq_true rfl) (by decide) (tm_isIn _ _ _) ?_
          refine mn_top (u := .int (nI (Bool.toNat (true)))) (congrArg Value.int (in_t (a := 0) (b := 1) (by decide) (by decide) (by omega) (by omega) ((nI_inb hw (by decide)).imp id (fun z => by omega)))) ?_
          refine mn_ifB_ne (tgt := 29) dX12_meet_23 (by decide) (fun c23 => ?_) (fun c23 => ?_)
          · refine mm_aload_n dX12_meet_29 rfl 0 rfl ?_
            refine mm_iload_n dX12_meet_30 rfl 1 rfl ?_
            refine mm_aload_n dX12_meet_31 rfl 0 rfl ?_
            refine rm_getA 5 dX12_meet_32 ha zf_pickedOf (by decide) rfl ?_
            refine mm_iload_n dX12_meet_35 rfl 1 rfl ?_
            refine rm_iald (k := 5) dX12_meet_36 ha rfl rfl rfl (show n < 6 from (by omega)) ?_
            refine mn_top (u := .int (nI (aPk s n))) (congrArg Value.int (p5)) ?_
            refine rm_callV (As := [.int (nI (n)), .int (nI (aPk s n))]) (rest := []) (d2 := 9) dX12_meet_37 ha zc_find zc_find_s rfl rfl rfl (Nat.le_of_ble_eq_true rfl) (Nat.le_of_ble_eq_true rfl) (by decide) (tM_findR ha hW hI hn (by rw [pf_rf hvok.2.2.2.2.2.2]; exact ga)) (fun r h1 hq => ?_)
            obtain ⟨rfl, F1, A1, ha, hf', hI1⟩ := hq
            have hf := hf.tr hf'
            rw [pf_rf hvok.2.2.2.2.2.2]
            have p5P := ((hI1).1.2 p hn6P).2.2.2.2.1
            refine mm_istore (L' := [(4, .int (pfA (aR s n).length)), (0, .ref (o)), (1, .int (nI (n))), (2, .int (nI (p))), (3, .int (nI (w)))]) dX12_meet_40 (by decide) rfl ?_
            refine mm_aload_n dX12_meet_42 rfl 1 rfl ?_
            refine mm_iload_n dX12_meet_43 rfl 3 rfl ?_
            refine mm_aload_n dX12_meet_44 rfl 1 rfl ?_
            refine rm_getA 5 dX12_meet_45 ha zf_pickedOf (by decide) rfl ?_
            refine mm_iload_n dX12_meet_48 rfl 3 rfl ?_
            refine rm_iald (k := 5) dX12_meet_49 ha rfl rfl rfl (show p < 6 from (by omega)) ?_
            refine mn_top (u := .int (nI (aPk s p))) (congrArg Value.int (p5P)) ?_
            refine rm_callV (As := [.int (nI (p)), .int (nI (aPk s p))]) (rest := []) (d2 := 9) dX12_meet_50 ha zc_find zc_find_s rfl rfl rfl (Nat.le_of_ble_eq_true rfl) (Nat.le_of_ble_eq_true rfl) (by decide) (tM_findR ha hW hI1 hp (by rw [pf_rf hvokP.2.2.2.2.2.2]; exact gb)) (fun r h1 hq => ?_)
            obtain ⟨rfl, F2, A2, ha, hf', hI2⟩ := hq
            have hf := hf.tr hf'
            rw [pf_rf hvokP.2.2.2.2.2.2]
            refine mm_istore (L' := [(5, .int (pfA (aR s p).length)), (4, .int (pfA (aR s n).length)), (0, .ref (o)), (1, .int (nI (n))), (2, .int (nI (p))), (3, .int (nI (w)))]) dX12_meet_53 (by decide) rfl ?_
            refine mm_iload dX12_meet_55 1 rfl ?_
            refine mm_bipush (v := (-4)) dX12_meet_57 (by decide) ?_
            refine mm_icmp_eq (tgt := 69) dX12_meet_59 (by decide) (fun c59 => ?_) (fun c59 => ?_)
            · exact absurd (pfA_m.mp c59) (by omega)
            · refine mm_iload dX12_meet_62 0 rfl ?_
              refine mm_bipush (v := (-4)) dX12_meet_64 (by decide) ?_
              refine mm_icmp_ne (tgt := 72) dX12_meet_66 (by decide) (fun c66 => ?_) (fun c66 => ?_)
              · refine mm_iload dX12_meet_72 1 rfl ?_
                refine mm_if_lt (tgt := 82) dX12_meet_74 (by decide) (fun c74 => ?_) (fun c74 => ?_)
                · refine mm_iconst (v := (-1)) dX12_meet_82 (by decide) ?_
                  exact mm_iret dX12_meet_83 rfl (⟨rfl, F2, _, A2, B, ha, hf, hI2⟩)
                · exact absurd (pfA_neg ga) c74
              · exact absurd (pfA_m.mp c66) (by omega)
          · cases c23
