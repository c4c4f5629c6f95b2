/-! the reference: what is found -/
theorem RI_prop {s : aS} {F : Nat → Int32} {A : Nat → Nat → Int32} {B : Nat → Nat → Int64} {n up dn : Nat} (hW : WF s) (h : RI s F A B) (hn : n < aNv s) (hu : up ≤ 1000) (hd : dn ≤ 1000) : RI (aProp s n up dn) F (rm_up (rm_up A 3 (upd (A 3) n (nI up))) 4 (upd ((rm_up A 3 (upd (A 3) n (nI up))) 4) n (nI dn))) B := by
  refine RI_vo h ⟨h.1.1, fun u hu6 => ?_⟩ rfl (fun j hj => rfl) (fun j hj => by rw [rm_up_n (by omega), rm_up_n (by omega)]) (Nat.le_refl _) (fun u hu => ⟨rfl, rfl⟩)
  obtain ⟨k1, k2, k3, k4, k5, k6⟩ := h.1.2 u hu6
  rw [rm_up_n (show 1 ≠ 4 by decide), rm_up_n (show 1 ≠ 3 by decide), rm_up_n (show 2 ≠ 4 by decide), rm_up_n (show 2 ≠ 3 by decide), rm_up_n (show 3 ≠ 4 by decide), rm_up_s, rm_up_s, rm_up_n (show 4 ≠ 3 by decide), rm_up_n (show 5 ≠ 4 by decide), rm_up_n (show 5 ≠ 3 by decide)]
  show (A 1 u = nI (aSg s u) ∧ aSg s u < 16) ∧ (A 2 u = nI (aSz s u) ∧ aSz s u ≤ 24) ∧ (upd (A 3) n (nI up) u = nI (rm_up (aUp s) n up u) ∧ rm_up (aUp s) n up u ≤ 1000) ∧ (upd (A 4) n (nI dn) u = nI (rm_up (aDn s) n dn u) ∧ rm_up (aDn s) n dn u ≤ 1000) ∧ A 5 u = nI (aPk s u) ∧ aPk s u < 1001
  by_cases e : u = n
  · rw [e, pk_us, pk_us, rm_up_s, rm_up_s]
    rw [e] at k1 k2 k5 k6
    exact ⟨k1, k2, ⟨rfl, hu⟩, ⟨rfl, hd⟩, k5, k6⟩
  · rw [pk_un e, pk_un e, rm_up_n e, rm_up_n e]
    exact ⟨k1, k2, k3, k4, k5, k6⟩
set_option maxRecDepth 100000 in
set_option maxHeartbeats 4000000 in
theorem tM_proportion {l : Launch} {D : va_G} {aa : Nat → ClassId} {b0 : Nat} {h : mm_H} {o : Nat} {F : Nat → Int32} {G : Nat → Int64} {A : Nat → Nat → Int32} {B : Nat → Nat → Int64} {s : aS} {n : Nat} {u d : Nat} (ha : rm_at o F G A B h) (hW : WF s) (hI : RI s F A B) (hn : n < aNv s) (hu9 : 0 < u ∧ u ≤ 9) (hd9 : 0 < d ∧ d ≤ 9) (hgood : ¬ (1000 < (red (aUp s n * u) (aDn s n * d)).1 ∨ 1000 < (red (aUp s n * u) (aDn s n * d)).2)) : mm_V (zz_K l D aa b0) 3 yX12_proportion cX12_proportion 7 (some .int) 0 [(0, .ref (o)), (1, .int (nI (n))), (2, .int (nI (u))), (3, .int (nI (d)))] [] h 0 0 (fun r h' => r = some (.int (nI 1)) ∧ ∃ (F' : Nat → Int32) (A' : Nat → Nat → Int32), rm_at o F' G A' B h' ∧ rm_fr o h h' ∧ RI (aProp s n (red (aUp s n * u) (aDn s n * d)).1 (red (aUp s n * u) (aDn s n * d)).2) F' A' B) := by
  have hf : rm_fr o h h := rm_fr.rf
  have hn6 : n < 6 := by have := hW.1.1; omega
  have hvok := hW.2.1 n hn6
  have hsz24 : aSz s n ≤ 24 := hvok.1.2
  obtain ⟨⟨v1, w1⟩, ⟨v2, w2⟩, ⟨v3, w3⟩, ⟨v4, w4⟩, v5, w5⟩ := hI.1.2 n hn6
  obtain ⟨hua, hda⟩ := hvok.2.2.1 hn
  have hm1 : aUp s n * u ≤ 1000 * 9 := Nat.mul_le_mul hua.2.1 hu9.2
  have hm2 : aDn s n * d ≤ 1000 * 9 := Nat.mul_le_mul hda.2 hd9.2
  have hm3 : 0 < aDn s n * d := Nat.mul_pos hda.1 hd9.1
  have hg1 : 0 < Nat.gcd (aUp s n * u) (aDn s n * d) := Nat.gcd_pos_of_pos_right _ hm3
  have hgd : Nat.gcd (aUp s n * u) (aDn s n * d) ≤ aDn s n * d := Nat.gcd_le_right _ hm3
  have hq1 : (red (aUp s n * u) (aDn s n * d)).1 ≤ 9000 := Nat.le_trans (Nat.div_le_self _ _) hm1
  have hq2 : (red (aUp s n * u) (aDn s n * d)).2 ≤ 9000 := Nat.le_trans (Nat.div_le_self _ _) hm2
  refine mm_aload_n dX12_proportion_0 rfl 0 rfl ?_
  refine mm_iload_n dX12_proportion_1 rfl 1 rfl ?_
  refine rm_callVr (As := [.int (nI (n))]) (rest := []) (d2 := 1) dX12_proportion_2 ha zc_isVoice zc_isVoice_s rfl rfl rfl (Nat.le_of_ble_eq_true rfl) (Nat.le_of_ble_eq_true rfl) (by decide) (tM_isVoice ha hW hI (nI_inb hn (by have := hW.1.1; omega))) ?_
  refine mn_ifB_eq (tgt := 32) dX12_proportion_5 (by decide) (fun c5 => ?_) (fun c5 => ?_)
  · cases c5
  · refine mm_iload_n dX12_proportion_8 rfl 2 rfl ?_
    refine mm_i2l dX12_proportion_9 ?_
    refine mm_lconst (v := lN 1) dX12_proportion_10 (by decide) ?_
    refine mm_ldc2 (v := (9)) dX12_proportion_11 zk_155 ?_
    refine mn_top (u := .long (lN (9))) (congrArg Value.long (by decide)) ?_
    refine rm_callSr (As := [.long ((nI (u)).toInt64), .long (lN (1)), .long (lN (9))]) (rest := []) (d2 := 0) dX12_proportion_14 zc_isIn rfl rfl (Nat.le_of_ble_eq_true rfl) (Nat.le_of_ble_eq_true rfl) (by decide) (tm_isIn _ _ _) ?_
    refine mn_top (u := .int (nI (Bool.toNat (true)))) (congrArg Value.int (in_t (a := 1) (b := 9) (by decide) (by decide) (by omega) (by omega) (by rw [nI_toInt (by omega)]; omega))) ?_
    refine mn_ifB_eq (tgt := 32) dX12_proportion_17 (by decide) (fun c17 => ?_) (fun c17 => ?_)
    · cases c17
    · refine mm_iload_n dX12_proportion_20 rfl 3 rfl ?_
      refine mm_i2l dX12_proportion_21 ?_
      refine mm_lconst (v := lN 1) dX12_proportion_22 (by decide) ?_
      refine mm_ldc2 (v := (9)) dX12_proportion_23 zk_155 ?_
      refine mn_top (u := .long (lN (9))) (congrArg Value.long (by decide)) ?_
      refine rm_callSr (As := [.long ((nI (d)).toInt64), .long (lN (1)), .long (lN (9))]) (rest := []) (d2 := 0) dX12_proportion_26 zc_isIn rfl rfl (Nat.le_of_ble_eq_true rfl) (Nat.le_of_ble_eq_true rfl) (by decide) (tm_isIn _ _ _) ?_
      refine mn_top (u := .int (nI (Bool.toNat (true)))) (congrArg Value.int (in_t (a := 1) (b := 9) (by decide) (by decide) (by omega) (by omega) (by rw [nI_toInt (by omega)]; omega))) ?_
      refine mn_ifB_ne (tgt := 35) dX12_proportion_29 (by decide) (fun c29 => ?_) (fun c29 => ?_)
      · refine mm_aload_n dX12_proportion_35 rfl 0 rfl ?_
        refine rm_getA 3 dX12_proportion_36 ha zf_upOf (by decide) rfl ?_
        refine mm_iload_n dX12_proportion_39 rfl 1 rfl ?_
        refine rm_iald (k := 3) dX12_proportion_40 ha rfl rfl rfl (show n < 6 from (by omega)) ?_
        refine mn_top (u := .int (nI (aUp s n))) (congrArg Value.int (v3)) ?_
        refine mm_iload_n dX12_proportion_41 rfl 2 rfl ?_
        refine mn_imul dX12_proportion_42 ?_
        refine mm_istore (L' := [(4, .int (nI ((aUp s n) * (u)))), (0, .ref (o)), (1, .int (nI (n))), (2, .int (nI (u))), (3, .int (nI (d)))]) dX12_proportion_43 (by decide) rfl ?_
        refine mm_aload_n dX12_proportion_45 rfl 1 rfl ?_
        refine rm_getA 4 dX12_proportion_46 ha zf_downOf (by decide) rfl ?_
        refine mm_iload_n dX12_proportion_49 rfl 2 rfl ?_
        refine rm_iald (k := 4) dX12_proportion_50 ha rfl rfl rfl (show n < 6 from (by omega)) ?_
        refine mn_top (u := .int (nI (aDn s n))) (congrArg Value.int (v4)) ?_
        refine mm_iload_n dX12_proportion_51 rfl 4 rfl ?_
        refine mn_imul dX12_proportion_52 ?_
        refine mm_istore (L' := [(5, .int (nI ((aDn s n) * (d)))), (4, .int (nI ((aUp s n) * (u)))), (0, .ref (o)), (1, .int (nI (n))), (2, .int (nI (u))), (3, .int (nI (d)))]) dX12_proportion_53 (by decide) rfl ?_
        refine mm_iload dX12_proportion_55 1 rfl ?_
        refine mn_i2l dX12_proportion_57 (by omega) ?_
        refine mm_iload dX12_proportion_58 0 rfl ?_
        refine mn_i2l dX12_proportion_60 (by omega) ?_
        refine rm_callSr (As := [.long (lN ((aUp s n) * (u))), .long (lN ((aDn s n) * (d)))]) (rest := []) (d2 := 0) dX12_proportion_61 zc_divisor rfl rfl (Nat.le_of_ble_eq_true rfl) (Nat.le_of_ble_eq_true rfl) (by decide) (tm_divisor (by omega) (by omega)) ?_
        refine mn_l2i dX12_proportion_64 ?_
        refine mm_istore (L' := [(6, .int (nI (Nat.gcd (aUp s n * u) (aDn s n * d)))), (5, .int (nI ((aDn s n) * (d)))), (4, .int (nI ((aUp s n) * (u)))), (0, .ref (o)), (1, .int (nI (n))), (2, .int (nI (u))), (3, .int (nI (d)))]) dX12_proportion_65 (by decide) rfl ?_
        refine mm_iload dX12_proportion_67 2 rfl ?_
        refine mm_iload dX12_proportion_69 0 rfl ?_
        refine mn_idiv dX12_proportion_71 (by omega) (by omega) (by omega) ?_
        refine mn_top (u := .int (nI ((red (aUp s n * u) (aDn s n * d)).1))) (congrArg Value.int (rfl)) ?_
        refine mm_sipush (v := nI 1000) dX12_proportion_72 (by decide) ?_
        refine mn_icmp_gt (tgt := 89) dX12_proportion_75 (by decide) (by omega) (by omega) (fun c75 => ?_) (fun c75 => ?_)
        · exact absurd (Or.inl (show 1000 < (red (aUp s n * u) (aDn s n * d)).1 from c75)) hgood
        · refine mm_iload dX12_proportion_78 1 rfl ?_
          refine mm_iload dX12_proportion_80 0 rfl ?_
          refine mn_idiv dX12_proportion_82 (by omega) (by omega) (by omega) ?_
          refine mn_top (u := .int (nI ((red (aUp s n * u) (aDn s n * d)).2))) (congrArg Value.int (rfl)) ?_
          refine mm_sipush (v := nI 1000) dX12_proportion_83 (by decide) ?_
          refine mn_icmp_le (tgt := 92) dX12_proportion_86 (by decide) (by omega) (by omega) (fun c86 => ?_) (fun c86 => ?_)
          · refine mm_aload_n dX12_proportion_92 rfl 3 rfl ?_
            refine rm_getA 3 dX12_proportion_93 ha zf_upOf (by decide) rfl ?_
            refine mm_iload_n dX12_proportion_96 rfl 4 rfl ?_
            refine mm_iload dX12_proportion_97 2 rfl ?_
            refine mm_iload dX12_proportion_99 0 rfl ?_
            refine mn_idiv dX12_proportion_101 (by omega) (by omega) (by omega) ?_
            refine mn_top (u := .int (nI ((red (aUp s n * u) (aDn s n * d)).1))) (congrArg Value.int (rfl)) ?_
            refine rm_iast (k := 3) dX12_proportion_102 ha hf rfl rfl rfl (show n < 6 from (by omega)) (fun h ha hf => ?_)
            refine mm_aload_n dX12_proportion_103 rfl 3 rfl ?_
            refine rm_getA 4 dX12_proportion_104 ha zf_downOf (by decide) rfl ?_
            refine mm_iload_n dX12_proportion_107 rfl 4 rfl ?_
            refine mm_iload dX12_proportion_108 1 rfl ?_
            refine mm_iload dX12_proportion_110 0 rfl ?_
            refine mn_idiv dX12_proportion_112 (by omega) (by omega) (by omega) ?_
            refine mn_top (u := .int (nI ((red (aUp s n * u) (aDn s n * d)).2))) (congrArg Value.int (rfl)) ?_
            refine rm_iast (k := 4) dX12_proportion_113 ha hf rfl rfl rfl (show n < 6 from (by omega)) (fun h ha hf => ?_)
            refine mm_iconst (v := nI 1) dX12_proportion_114 (by decide) ?_
            exact mm_iret dX12_proportion_115 rfl (⟨rfl, F, _, ha, hf, RI_prop hW hI hn (by omega) (by omega)⟩)
          · exact absurd (Or.inr (show 1000 < (red (aUp s n * u) (aDn s n * d)).2 from by have : ¬ (red (aUp s n * u) (aDn s n * d)).2 ≤ 1000 := c86; omega)) hgood
      · cases c29
set_option maxRecDepth 100000 in
set_option maxHeartbeats 4000000 in
theorem tM_proportionF {l : Launch} {D : va_G} {aa : Nat → ClassId} {b0 : Nat} {h : mm_H} {o : Nat} {F : Nat → Int32} {G : Nat → Int64} {A : Nat → Nat → Int32} {B : Nat → Nat → Int64} {s : aS} {n : Nat} {u d : Nat} (ha : rm_at o F G A B h) (hW : WF s) (hI : RI s F A B) (hn : n < aNv s) (hu9 : 0 < u ∧ u ≤ 9) (hd9 : 0 < d ∧ d ≤ 9) (hgood : 1000 < (red (aUp s n * u) (aDn s n * d)).1 ∨ 1000 < (red (aUp s n * u) (aDn s n * d)).2) : mm_V (zz_K l D aa b0) 3 yX12_proportion cX12_proportion 7 (some .int) 0 [(0, .ref (o)), (1, .int (nI (n))), (2, .int (nI (u))), (3, .int (nI (d)))] [] h 0 0 (fun r h' => h' = h ∧ r = some (.int (-3))) := by
  have hf : rm_fr o h h := rm_fr.rf
  have hn6 : n < 6 := by have := hW.1.1; omega
  have hvok := hW.2.1 n hn6
  have hsz24 : aSz s n ≤ 24 := hvok.1.2
  obtain ⟨⟨v1, w1⟩, ⟨v2, w2⟩, ⟨v3, w3⟩, ⟨v4, w4⟩, v5, w5⟩ := hI.1.2 n hn6
  obtain ⟨hua, hda⟩ := hvok.2.2.1 hn
  have hm1 : aUp s n * u ≤ 1000 * 9 := Nat.mul_le_mul hua.2.1 hu9.2
  have hm2 : aDn s n * d ≤ 1000 * 9 := Nat.mul_le_mul hda.2 hd9.2
  have hm3 : 0 < aDn s n * d := Nat.mul_pos hda.1 hd9.1
  have hg1 : 0 < Nat.gcd (aUp s n * u) (aDn s n * d) := Nat.gcd_pos_of_pos_right _ hm3
  have hgd : Nat.gcd (aUp s n * u) (aDn s n * d) ≤ aDn s n * d := Nat.gcd_le_right _ hm3
  have hq1 : (red (aUp s n * u) (aDn s n * d)).1 ≤ 9000 := Nat.le_trans (Nat.div_le_self _ _) hm1
  have hq2 : (red (aUp s n * u) (aDn s n * d)).2 ≤ 9000 := Nat.le_trans (Nat.div_le_self _ _) hm2
  refine mm_aload_n dX12_proportion_0 rfl 0 rfl ?_
  refine mm_iload_n dX12_proportion_1 rfl 1 rfl ?_
  refine rm_callVr (As := [.int (nI (n))]) (rest := []) (d2 := 1) dX12_proportion_2 ha zc_isVoice zc_isVoice_s rfl rfl rfl (Nat.le_of_ble_eq_true rfl) (Nat.le_of_ble_eq_true rfl) (by decide) (tM_isVoice ha hW hI (nI_inb hn (by have := hW.1.1; omega))) ?_
  refine mn_ifB_eq (tgt := 32) dX12_proportion_5 (by decide) (fun c5 => ?_) (fun c5 => ?_)
  · cases c5
  · refine mm_iload_n dX12_proportion_8 rfl 2 rfl ?_
    refine mm_i2l dX12_proportion_9 ?_
    refine mm_lconst (v := lN 1) dX12_proportion_10 (by decide) ?_
    refine mm_ldc2 (v := (9)) dX12_proportion_11 zk_155 ?_
    refine mn_top (u := .long (lN (9))) (congrArg Value.long (by decide)) ?_
    refine rm_callSr (As := [.long ((nI (u)).toInt64), .long (lN (1)), .long (lN (9))]) (rest := []) (d2 := 0) dX12_proportion_14 zc_isIn rfl rfl (Nat.le_of_ble_eq_true rfl) (Nat.le_of_ble_eq_true rfl) (by decide) (tm_isIn _ _ _) ?_
    refine mn_top (u := .int (nI (Bool.toNat (true)))) (congrArg Value.int (in_t (a := 1) (b := 9) (by decide) (by decide) (by omega) (by omega) (by rw [nI_toInt (by omega)]; omega))) ?_
    refine mn_ifB_eq (tgt := 32) dX12_proportion_17 (by decide) (fun c17 => ?_) (fun c17 => ?_)
    · cases c17
    · refine mm_iload_n dX12_proportion_20 rfl 3 rfl ?_
      refine mm_i2l dX12_proportion_21 ?_
      refine mm_lconst (v := lN 1) dX12_proportion_22 (by decide) ?_
      refine mm_ldc2 (v := (9)) dX12_proportion_23 zk_155 ?_
      refine mn_top (u := .long (lN (9))) (congrArg Value.long (by decide)) ?_
      refine rm_callSr (As := [.long ((nI (d)).toInt64), .long (lN (1)), .long (lN (9))]) (rest := []) (d2 := 0) dX12_proportion_26 zc_isIn rfl rfl (Nat.le_of_ble_eq_true rfl) (Nat.le_of_ble_eq_true rfl) (by decide) (tm_isIn _ _ _) ?_
      refine mn_top (u := .int (nI (Bool.toNat (true)))) (congrArg Value.int (in_t (a := 1) (b := 9) (by decide) (by decide) (by omega) (by omega) (by rw [nI_toInt (by omega)]; omega))) ?_
      refine mn_ifB_ne (tgt := 35) dX12_proportion_29 (by decide) (fun c29 => ?_) (fun c29 => ?_)
      · refine mm_aload_n dX12_proportion_35 rfl 0 rfl ?_
        refine rm_getA 3 dX12_proportion_36 ha zf_upOf (by decide) rfl ?_
        refine mm_iload_n dX12_proportion_39 rfl 1 rfl ?_
        refine rm_iald (k := 3) dX12_proportion_40 ha rfl rfl rfl (show n < 6 from (by omega)) ?_
        refine mn_top (u := .int (nI (aUp s n))) (congrArg Value.int (v3)) ?_
        refine mm_iload_n dX12_proportion_41 rfl 2 rfl ?_
        refine mn_imul dX12_proportion_42 ?_
        refine mm_istore (L' := [(4, .int (nI ((aUp s n) * (u)))), (0, .ref (o)), (1, .int (nI (n))), (2, .int (nI (u))), (3, .int (nI (d)))]) dX12_proportion_43 (by decide) rfl ?_
        refine mm_aload_n dX12_proportion_45 rfl 1 rfl ?_
        refine rm_getA 4 dX12_proportion_46 ha zf_downOf (by decide) rfl ?_
        refine mm_iload_n dX12_proportion_49 rfl 2 rfl ?_
        refine rm_iald (k := 4) dX12_proportion_50 ha rfl rfl rfl (show n < 6 from (by omega)) ?_
        refine mn_top (u := .int (nI (aDn s n))) (congrArg Value.int (v4)) ?_
        refine mm_iload_n dX12_proportion_51 rfl 4 rfl ?_
        refine mn_imul dX12_proportion_52 ?_
        refine mm_istore (L' := [(5, .int (nI ((aDn s n) * (d)))), (4, .int (nI ((aUp s n) * (u)))), (0, .ref (o)), (1, .int (nI (n))), (2, .int (nI (u))), (3, .int (nI (d)))]) dX12_proportion_53 (by decide) rfl ?_
        refine mm_iload dX12_proportion_55 1 rfl ?_
        refine mn_i2l dX12_proportion_57 (by omega) ?_
        refine mm_iload dX12_proportion_58 0 rfl ?_
        refine mn_i2l dX12_proportion_60 (by omega) ?_
        refine rm_callSr (As := [.long (lN ((aUp s n) * (u))), .long (lN ((aDn s n) * (d)))]) (rest := []) (d2 := 0) dX12_proportion_61 zc_divisor rfl rfl (Nat.le_of_ble_eq_true rfl) (Nat.le_of_ble_eq_true rfl) (by decide) (tm_divisor (by omega) (by omega)) ?_
        refine mn_l2i dX12_proportion_64 ?_
        refine mm_istore (L' := [(6, .int (nI (Nat.gcd (aUp s n * u) (aDn s n * d)))), (5, .int (nI ((aDn s n) * (d)))), (4, .int (nI ((aUp s n) * (u)))), (0, .ref (o)), (1, .int (nI (n))), (2, .int (nI (u))), (3, .int (nI (d)))]) dX12_proportion_65 (by decide) rfl ?_
        refine mm_iload dX12_proportion_67 2 rfl ?_
        refine mm_iload dX12_proportion_69 0 rfl ?_
        refine mn_idiv dX12_proportion_71 (by omega) (by omega) (by omega) ?_
        refine mn_top (u := .int (nI ((red (aUp s n * u) (aDn s n * d)).1))) (congrArg Value.int (rfl)) ?_
        refine mm_sipush (v := nI 1000) dX12_proportion_72 (by decide) ?_
        refine mn_icmp_gt (tgt := 89) dX12_proportion_75 (by decide) (by omega) (by omega) (fun c75 => ?_) (fun c75 => ?_)
        · refine mm_bipush (v := (-3)) dX12_proportion_89 (by decide) ?_
          exact mm_iret dX12_proportion_91 rfl (⟨rfl, rfl⟩)
        · refine mm_iload dX12_proportion_78 1 rfl ?_
          refine mm_iload dX12_proportion_80 0 rfl ?_
          refine mn_idiv dX12_proportion_82 (by omega) (by omega) (by omega) ?_
          refine mn_top (u := .int (nI ((red (aUp s n * u) (aDn s n * d)).2))) (congrArg Value.int (rfl)) ?_
          refine mm_sipush (v := nI 1000) dX12_proportion_83 (by decide) ?_
          refine mn_icmp_le (tgt := 92) dX12_proportion_86 (by decide) (by omega) (by omega) (fun c86 => ?_) (fun c86 => ?_)
          · exact False.elim (hgood.elim (fun q => c75 q) (fun q => absurd (show (red (aUp s n * u) (aDn s n * d)).2 ≤ 1000 from c86) (by omega)))
          · refine mm_bipush (v := (-3)) dX12_proportion_89 (by decide) ?_
            exact mm_iret dX12_proportion_91 rfl (⟨rfl, rfl⟩)
      · cases c29
set_option maxRecDepth 100000 in
set_option maxHeartbeats 4000000 in
theorem tM_proportionU {l : Launch} {D : va_G} {aa : Nat → ClassId} {b0 : Nat} {h : mm_H} {o : Nat} {F : Nat → Int32} {G : Nat → Int64} {A : Nat → Nat → Int32} {B : Nat → Nat → Int64} {s : aS} {n : Nat} {u d : Int32} (ha : rm_at o F G A B h) (hW : WF s) (hI : RI s F A B) (hn : n < aNv s) (hb : ¬ ((1 : Int) ≤ u.toInt ∧ u.toInt ≤ 9)) : mm_V (zz_K l D aa b0) 3 yX12_proportion cX12_proportion 7 (some .int) 0 [(0, .ref (o)), (1, .int (nI (n))), (2, .int (u)), (3, .int (d))] [] h 0 0 (fun r h' => h' = h ∧ r = some (.int (-2))) := by
  have hf : rm_fr o h h := rm_fr.rf
  have hn6 : n < 6 := by have := hW.1.1; omega
  have hvok := hW.2.1 n hn6
  have hsz24 : aSz s n ≤ 24 := hvok.1.2
  obtain ⟨⟨v1, w1⟩, ⟨v2, w2⟩, ⟨v3, w3⟩, ⟨v4, w4⟩, v5, w5⟩ := hI.1.2 n hn6
  refine mm_aload_n dX12_proportion_0 rfl 0 rfl ?_
  refine mm_iload_n dX12_proportion_1 rfl 1 rfl ?_
  refine rm_callVr (As := [.int (nI (n))]) (rest := []) (d2 := 1) dX12_proportion_2 ha zc_isVoice zc_isVoice_s rfl rfl rfl (Nat.le_of_ble_eq_true rfl) (Nat.le_of_ble_eq_true rfl) (by decide) (tM_isVoice ha hW hI (nI_inb hn (by have := hW.1.1; omega))) ?_
  refine mn_ifB_eq (tgt := 32) dX12_proportion_5 (by decide) (fun c5 => ?_) (fun c5 => ?_)
  · cases c5
  · refine mm_iload_n dX12_proportion_8 rfl 2 rfl ?_
    refine mm_i2l dX12_proportion_9 ?_
    refine mm_lconst (v := lN 1) dX12_proportion_10 (by decide) ?_
    refine mm_ldc2 (v := (9)) dX12_proportion_11 zk_155 ?_
    refine mn_top (u := .long (lN (9))) (congrArg Value.long (by decide)) ?_
    refine rm_callSr (As := [.long ((u).toInt64), .long (lN (1)), .long (lN (9))]) (rest := []) (d2 := 0) dX12_proportion_14 zc_isIn rfl rfl (Nat.le_of_ble_eq_true rfl) (Nat.le_of_ble_eq_true rfl) (by decide) (tm_isIn _ _ _) ?_
    refine mn_top (u := .int (nI (Bool.toNat (false)))) (congrArg Value.int (in_f (a := 1) (b := 9) (by decide) (by decide) (by omega) (by omega) (hb))) ?_
    refine mn_ifB_eq (tgt := 32) dX12_proportion_17 (by decide) (fun c17 => ?_) (fun c17 => ?_)
    · refine mm_bipush (v := (-2)) dX12_proportion_32 (by decide) ?_
      exact mm_iret dX12_proportion_34 rfl (⟨rfl, rfl⟩)
    · cases c17
set_option maxRecDepth 100000 in
set_option maxHeartbeats 4000000 in
theorem tM_proportionD {l : Launch} {D : va_G} {aa : Nat → ClassId} {b0 : Nat} {h : mm_H} {o : Nat} {F : Nat → Int32} {G : Nat → Int64} {A : Nat → Nat → Int32} {B : Nat → Nat → Int64} {s : aS} {n : Nat} {u d : Int32} (ha : rm_at o F G A B h) (hW : WF s) (hI : RI s F A B) (hn : n < aNv s) (hu : (1 : Int) ≤ u.toInt ∧ u.toInt ≤ 9) (hb : ¬ ((1 : Int) ≤ d.toInt ∧ d.toInt ≤ 9)) : mm_V (zz_K l D aa b0) 3 yX12_proportion cX12_proportion 7 (some .int) 0 [(0, .ref (o)), (1, .int (nI (n))), (2, .int (u)), (3, .int (d))] [] h 0 0 (fun r h' => h' = h ∧ r = some (.int (-2))) := by
  have hf : rm_fr o h h := rm_fr.rf
  have hn6 : n < 6 := by have := hW.1.1; omega
  have hvok := hW.2.1 n hn6
  have hsz24 : aSz s n ≤ 24 := hvok.1.2
  obtain ⟨⟨v1, w1⟩, ⟨v2, w2⟩, ⟨v3, w3⟩, ⟨v4, w4⟩, v5, w5⟩ := hI.1.2 n hn6
  refine mm_aload_n dX12_proportion_0 rfl 0 rfl ?_
  refine mm_iload_n dX12_proportion_1 rfl 1 rfl ?_
  refine rm_callVr (As := [.int (nI (n))]) (rest := []) (d2 := 1) dX12_proportion_2 ha zc_isVoice zc_isVoice_s rfl rfl rfl (Nat.le_of_ble_eq_true rfl) (Nat.le_of_ble_eq_true rfl) (by decide) (tM_isVoice ha hW hI (nI_inb hn (by have := hW.1.1; omega))) ?_
  refine mn_ifB_eq (tgt := 32) dX12_proportion_5 (by decide) (fun c5 => ?_) (fun c5 => ?_)
  · cases c5
  · refine mm_iload_n dX12_proportion_8 rfl 2 rfl ?_
    refine mm_i2l dX12_proportion_9 ?_
    refine mm_lconst (v := lN 1) dX12_proportion_10 (by decide) ?_
    refine mm_ldc2 (v := (9)) dX12_proportion_11 zk_155 ?_
    refine mn_top (u := .long (lN (9))) (congrArg Value.long (by decide)) ?_
    refine rm_callSr (As := [.long ((u).toInt64), .long (lN (1)), .long (lN (9))]) (rest := []) (d2 := 0) dX12_proportion_14 zc_isIn rfl rfl (Nat.le_of_ble_eq_true rfl) (Nat.le_of_ble_eq_true rfl) (by decide) (tm_isIn _ _ _) ?_
    refine mn_top (u := .int (nI (Bool.toNat (true)))) (congrArg Value.int (in_t (a := 1) (b := 9) (by decide) (by decide) (by omega) (by omega) (hu))) ?_
    refine mn_ifB_eq (tgt := 32) dX12_proportion_17 (by decide) (fun c17 => ?_) (fun c17 => ?_)
    · cases c17
    · refine mm_iload_n dX12_proportion_20 rfl 3 rfl ?_
      refine mm_i2l dX12_proportion_21 ?_
      refine mm_lconst (v := lN 1) dX12_proportion_22 (by decide) ?_
      refine mm_ldc2 (v := (9)) dX12_proportion_23 zk_155 ?_
      refine mn_top (u := .long (lN (9))) (congrArg Value.long (by decide)) ?_
      refine rm_callSr (As := [.long ((d).toInt64), .long (lN (1)), .long (lN (9))]) (rest := []) (d2 := 0) dX12_proportion_26 zc_isIn rfl rfl (Nat.le_of_ble_eq_true rfl) (Nat.le_of_ble_eq_true rfl) (by decide) (tm_isIn _ _ _) ?_
      refine mn_top (u := .int (nI (Bool.toNat (false)))) (congrArg Value.int (in_f (a := 1) (b := 9) (by decide) (by decide) (by omega) (by omega) (hb))) ?_
      refine mn_ifB_ne (tgt := 35) dX12_proportion_29 (by decide) (fun c29 => ?_) (fun c29 => ?_)
      · cases c29
      · refine mm_bipush (v := (-2)) dX12_proportion_32 (by decide) ?_
        exact mm_iret dX12_proportion_34 rfl (⟨rfl, rfl⟩)
set_option maxRecDepth 100000 in
set_option maxHeartbeats 4000000 in
theorem tM_read {l : Launch} {D : va_G} {aa : Nat → ClassId} {b0 : Nat} {h : mm_H} {o : Nat} {F : Nat → Int32} {G : Nat → Int64} {A : Nat → Nat → Int32} {B : Nat → Nat → Int64} {s : aS} {n : Nat} (ha : rm_at o F G A B h) (hW : WF s) (hI : RI s F A B) (hn : n < aNv s) : mm_V (zz_K l D aa b0) 8 yX12_read cX12_read 3 (some .int) 0 [(0, .ref (o)), (1, .int (nI (n)))] [] h 0 0 (fun r h' => r = some (.int (if 1000 < (aR s n).length then (-4) else nI (aR s n).length)) ∧ ∃ (F' : Nat → Int32) (A' : Nat → Nat → Int32) (N : Nat), rm_at o F' G A' B h' ∧ rm_fr o h h' ∧ RI s F' A' B ∧ rc_ F' A' (aW s n) (aSg s n) (gd_ (aSg s n)) N ∧ F' 42 = nI n) := by
  have hn6 : n < 6 := by have := hW.1.1; omega
  have hvok := hW.2.1 n hn6
  have hrk := vok_rk hvok
  obtain ⟨r, d1, d2, d3⟩ := hI.2.2.2.1
  refine mm_weak (tm_read2 ha hI.1 hI.2.1 hI.2.2.1 d1 d2.1 d2.2 hn (w := aW s n) rfl (fun i hi => ⟨if_pos hi, if_pos hi, if_pos hi⟩) hvok.2.2.2.2.1 (fun e => (d3 n e).2)) (fun r h' hq => ?_)
  obtain ⟨N, hr, F', A', ha', hf', hF', hA', hsk', h42, hrc, hst⟩ := hq
  have hN : (1000 < N ↔ 1000 < (aR s n).length) ∧ (N ≤ 1000 → N = (aR s n).length) := rc_N hrc hrk
  refine ⟨?_, F', A', N, ha', hf', RI_rd hI hn hW.1.1 hF' hA' hsk' h42 hrc hst, hrc, h42⟩
  rw [hr]
  by_cases c : 1000 < N
  · rw [if_pos c, if_pos (hN.1.mp c)]; rfl
  · rw [if_neg c, if_neg (fun z => c (hN.1.mpr z)), hN.2 (by omega)]
