/-! the reference: symbols put down -/
set_option maxRecDepth 100000 in
set_option maxHeartbeats 4000000 in
theorem tM_symbol {l : Launch} {D : va_G} {aa : Nat → ClassId} {b0 : Nat} {h : mm_H} {o : Nat} {F : Nat → Int32} {G : Nat → Int64} {A : Nat → Nat → Int32} {B : Nat → Nat → Int64} {s : aS} {n : Nat} {i w : Nat} (ha : rm_at o F G A B h) (hW : WF s) (hI : RI s F A B) (hn : n < aNv s) (hi : i < aSz s n) (hw7 : w < 4) : mm_V (zz_K l D aa b0) 3 yX12_symbol cX12_symbol 5 (some .int) 0 [(0, .ref (o)), (1, .int (nI (n))), (2, .int (nI (i))), (3, .int (nI (w)))] [] h 0 0 (fun r h' => h' = h ∧ r = some (.int (symA s n i w))) := by
  have hf : rm_fr o h h := rm_fr.rf
  have hn6 : n < 6 := by have := hW.1.1; omega
  have hvok := hW.2.1 n hn6
  have hsz24 : aSz s n ≤ 24 := hvok.1.2
  obtain ⟨⟨v1, w1⟩, ⟨v2, w2⟩, ⟨v3, w3⟩, ⟨v4, w4⟩, v5, w5⟩ := hI.1.2 n hn6
  obtain ⟨⟨s1, u1⟩, ⟨s2, u2⟩, ⟨s3, u3⟩, s4, ⟨s5, u5⟩, s6, u6⟩ := hI.2.1 (24 * n + i) (by omega)
  have hw : w = 0 ∨ w = 1 ∨ w = 2 ∨ w = 3 := by omega
  rcases hw with rfl | rfl | rfl | rfl
  · refine mm_aload_n dX12_symbol_0 rfl 0 rfl ?_
    refine mm_iload_n dX12_symbol_1 rfl 1 rfl ?_
    refine rm_callVr (As := [.int (nI (n))]) (rest := []) (d2 := 1) dX12_symbol_2 ha zc_isVoice zc_isVoice_s rfl rfl rfl (Nat.le_of_ble_eq_true rfl) (Nat.le_of_ble_eq_true rfl) (by decide) (tM_isVoice ha hW hI (nI_inb hn (by have := hW.1.1; omega))) ?_
    refine mn_ifB_eq (tgt := 38) dX12_symbol_5 (by decide) (fun c5 => ?_) (fun c5 => ?_)
    · cases c5
    · refine mm_iload_n dX12_symbol_8 rfl 2 rfl ?_
      refine mm_i2l dX12_symbol_9 ?_
      refine mm_lconst (v := lN 0) dX12_symbol_10 (by decide) ?_
      refine mm_aload_n dX12_symbol_11 rfl 0 rfl ?_
      refine rm_getA 2 dX12_symbol_12 ha zf_sizeOf (by decide) rfl ?_
      refine mm_iload_n dX12_symbol_15 rfl 1 rfl ?_
      refine rm_iald (k := 2) dX12_symbol_16 ha rfl rfl rfl (show n < 6 from (by omega)) ?_
      refine mn_top (u := .int (nI (aSz s n))) (congrArg Value.int (v2)) ?_
      refine mm_iconst (v := nI 1) dX12_symbol_17 (by decide) ?_
      refine mm_isub dX12_symbol_18 ?_
      refine mm_i2l dX12_symbol_19 ?_
      refine rm_callSr (As := [.long ((nI (i)).toInt64), .long (lN (0)), .long (((nI (aSz s n)) - (nI (1))).toInt64)]) (rest := []) (d2 := 0) dX12_symbol_20 zc_isIn rfl rfl (Nat.le_of_ble_eq_true rfl) (Nat.le_of_ble_eq_true rfl) (by decide) (tm_isIn _ _ _) ?_
      refine mn_top (u := .int (nI (Bool.toNat (true)))) (congrArg Value.int (in_t (a := 0) (b := (aSz s n : Int) - 1) (by decide) (in_s (by omega)) (by omega) (by omega) (nI_inb hi (by omega)))) ?_
      refine mn_ifB_eq (tgt := 38) dX12_symbol_23 (by decide) (fun c23 => ?_) (fun c23 => ?_)
      · cases c23
      · refine mm_iload_n dX12_symbol_26 rfl 3 rfl ?_
        refine mm_i2l dX12_symbol_27 ?_
        refine mm_lconst (v := lN 0) dX12_symbol_28 (by decide) ?_
        refine mm_ldc2 (v := (3)) dX12_symbol_29 zk_173 ?_
        refine mn_top (u := .long (lN (3))) (congrArg Value.long (by decide)) ?_
        refine rm_callSr (As := [.long ((nI (0)).toInt64), .long (lN (0)), .long (lN (3))]) (rest := []) (d2 := 0) dX12_symbol_32 zc_isIn rfl rfl (Nat.le_of_ble_eq_true rfl) (Nat.le_of_ble_eq_true rfl) (by decide) (tm_isIn _ _ _) ?_
        refine mn_top (u := .int (nI (Bool.toNat (true)))) (congrArg Value.int (in_t (a := 0) (b := 3) (by decide) (by decide) (by omega) (by omega) (by decide))) ?_
        refine mn_ifB_ne (tgt := 41) dX12_symbol_35 (by decide) (fun c35 => ?_) (fun c35 => ?_)
        · refine mm_bipush (v := nI 24) dX12_symbol_41 (by decide) ?_
          refine mm_iload_n dX12_symbol_43 rfl 1 rfl ?_
          refine mn_imul dX12_symbol_44 ?_
          refine mm_iload_n dX12_symbol_45 rfl 2 rfl ?_
          refine mn_iadd dX12_symbol_46 ?_
          refine mm_istore (L' := [(4, .int (nI (((24) * (n)) + (i)))), (0, .ref (o)), (1, .int (nI (n))), (2, .int (nI (i))), (3, .int (nI (0)))]) dX12_symbol_47 (by decide) rfl ?_
          refine mm_iload_n dX12_symbol_49 rfl 4 rfl ?_
          refine mn_if_ne (tgt := 61) dX12_symbol_50 (by decide) (by omega) (fun c50 => ?_) (fun c50 => ?_)
          · omega
          · refine mm_aload_n dX12_symbol_53 rfl 1 rfl ?_
            refine rm_getA 6 dX12_symbol_54 ha zf_sortOf (by decide) rfl ?_
            refine mm_iload dX12_symbol_57 0 rfl ?_
            refine rm_iald (k := 6) dX12_symbol_59 ha rfl rfl rfl (show ((24) * (n)) + (i) < 144 from (by omega)) ?_
            refine mn_top (u := .int (nI (aSo s (24 * n + i)))) (congrArg Value.int (s1)) ?_
            exact mm_iret dX12_symbol_60 rfl (⟨rfl, by unfold symA; rw [if_pos rfl]⟩)
        · cases c35
  · refine mm_aload_n dX12_symbol_0 rfl 0 rfl ?_
    refine mm_iload_n dX12_symbol_1 rfl 1 rfl ?_
    refine rm_callVr (As := [.int (nI (n))]) (rest := []) (d2 := 1) dX12_symbol_2 ha zc_isVoice zc_isVoice_s rfl rfl rfl (Nat.le_of_ble_eq_true rfl) (Nat.le_of_ble_eq_true rfl) (by decide) (tM_isVoice ha hW hI (nI_inb hn (by have := hW.1.1; omega))) ?_
    refine mn_ifB_eq (tgt := 38) dX12_symbol_5 (by decide) (fun c5 => ?_) (fun c5 => ?_)
    · cases c5
    · refine mm_iload_n dX12_symbol_8 rfl 2 rfl ?_
      refine mm_i2l dX12_symbol_9 ?_
      refine mm_lconst (v := lN 0) dX12_symbol_10 (by decide) ?_
      refine mm_aload_n dX12_symbol_11 rfl 0 rfl ?_
      refine rm_getA 2 dX12_symbol_12 ha zf_sizeOf (by decide) rfl ?_
      refine mm_iload_n dX12_symbol_15 rfl 1 rfl ?_
      refine rm_iald (k := 2) dX12_symbol_16 ha rfl rfl rfl (show n < 6 from (by omega)) ?_
      refine mn_top (u := .int (nI (aSz s n))) (congrArg Value.int (v2)) ?_
      refine mm_iconst (v := nI 1) dX12_symbol_17 (by decide) ?_
      refine mm_isub dX12_symbol_18 ?_
      refine mm_i2l dX12_symbol_19 ?_
      refine rm_callSr (As := [.long ((nI (i)).toInt64), .long (lN (0)), .long (((nI (aSz s n)) - (nI (1))).toInt64)]) (rest := []) (d2 := 0) dX12_symbol_20 zc_isIn rfl rfl (Nat.le_of_ble_eq_true rfl) (Nat.le_of_ble_eq_true rfl) (by decide) (tm_isIn _ _ _) ?_
      refine mn_top (u := .int (nI (Bool.toNat (true)))) (congrArg Value.int (in_t (a := 0) (b := (aSz s n : Int) - 1) (by decide) (in_s (by omega)) (by omega) (by omega) (nI_inb hi (by omega)))) ?_
      refine mn_ifB_eq (tgt := 38) dX12_symbol_23 (by decide) (fun c23 => ?_) (fun c23 => ?_)
      · cases c23
      · refine mm_iload_n dX12_symbol_26 rfl 3 rfl ?_
        refine mm_i2l dX12_symbol_27 ?_
        refine mm_lconst (v := lN 0) dX12_symbol_28 (by decide) ?_
        refine mm_ldc2 (v := (3)) dX12_symbol_29 zk_173 ?_
        refine mn_top (u := .long (lN (3))) (congrArg Value.long (by decide)) ?_
        refine rm_callSr (As := [.long ((nI (1)).toInt64), .long (lN (0)), .long (lN (3))]) (rest := []) (d2 := 0) dX12_symbol_32 zc_isIn rfl rfl (Nat.le_of_ble_eq_true rfl) (Nat.le_of_ble_eq_true rfl) (by decide) (tm_isIn _ _ _) ?_
        refine mn_top (u := .int (nI (Bool.toNat (true)))) (congrArg Value.int (in_t (a := 0) (b := 3) (by decide) (by decide) (by omega) (by omega) (by decide))) ?_
        refine mn_ifB_ne (tgt := 41) dX12_symbol_35 (by decide) (fun c35 => ?_) (fun c35 => ?_)
        · refine mm_bipush (v := nI 24) dX12_symbol_41 (by decide) ?_
          refine mm_iload_n dX12_symbol_43 rfl 1 rfl ?_
          refine mn_imul dX12_symbol_44 ?_
          refine mm_iload_n dX12_symbol_45 rfl 2 rfl ?_
          refine mn_iadd dX12_symbol_46 ?_
          refine mm_istore (L' := [(4, .int (nI (((24) * (n)) + (i)))), (0, .ref (o)), (1, .int (nI (n))), (2, .int (nI (i))), (3, .int (nI (1)))]) dX12_symbol_47 (by decide) rfl ?_
          refine mm_iload_n dX12_symbol_49 rfl 4 rfl ?_
          refine mn_if_ne (tgt := 61) dX12_symbol_50 (by decide) (by omega) (fun c50 => ?_) (fun c50 => ?_)
          · refine mm_iload_n dX12_symbol_61 rfl 4 rfl ?_
            refine mm_iconst (v := nI 1) dX12_symbol_62 (by decide) ?_
            refine mn_icmp_ne (tgt := 89) dX12_symbol_63 (by decide) (by omega) (by omega) (fun c63 => ?_) (fun c63 => ?_)
            · omega
            · refine mm_aload_n dX12_symbol_66 rfl 1 rfl ?_
              refine rm_getA 6 dX12_symbol_67 ha zf_sortOf (by decide) rfl ?_
              refine mm_iload dX12_symbol_70 0 rfl ?_
              refine rm_iald (k := 6) dX12_symbol_72 ha rfl rfl rfl (show ((24) * (n)) + (i) < 144 from (by omega)) ?_
              refine mn_top (u := .int (nI (aSo s (24 * n + i)))) (congrArg Value.int (s1)) ?_
              refine mm_iconst (v := nI 3) dX12_symbol_73 (by decide) ?_
              refine mn_icmp_ne (tgt := 81) dX12_symbol_74 (by decide) (by omega) (by omega) (fun c74 => ?_) (fun c74 => ?_)
              · refine mm_aload_n dX12_symbol_81 rfl 1 rfl ?_
                refine rm_getA 7 dX12_symbol_82 ha zf_kindOf (by decide) rfl ?_
                refine mm_iload dX12_symbol_85 0 rfl ?_
                refine rm_iald (k := 7) dX12_symbol_87 ha rfl rfl rfl (show ((24) * (n)) + (i) < 144 from (by omega)) ?_
                refine mn_top (u := .int (nI (aKi s (24 * n + i)))) (congrArg Value.int (s2)) ?_
                exact mm_iret dX12_symbol_88 rfl (⟨rfl, by unfold symA; rw [if_neg (by decide), if_pos rfl, if_neg (by omega)]⟩)
              · refine mm_iconst (v := (-1)) dX12_symbol_77 (by decide) ?_
                refine mm_goto (tgt := 88) dX12_symbol_78 (by decide) ?_
                exact mm_iret dX12_symbol_88 rfl (⟨rfl, by unfold symA; rw [if_neg (by decide), if_pos rfl, if_pos (by omega)]⟩)
          · omega
        · cases c35
  · refine mm_aload_n dX12_symbol_0 rfl 0 rfl ?_
    refine mm_iload_n dX12_symbol_1 rfl 1 rfl ?_
    refine rm_callVr (As := [.int (nI (n))]) (rest := []) (d2 := 1) dX12_symbol_2 ha zc_isVoice zc_isVoice_s rfl rfl rfl (Nat.le_of_ble_eq_true rfl) (Nat.le_of_ble_eq_true rfl) (by decide) (tM_isVoice ha hW hI (nI_inb hn (by have := hW.1.1; omega))) ?_
    refine mn_ifB_eq (tgt := 38) dX12_symbol_5 (by decide) (fun c5 => ?_) (fun c5 => ?_)
    · cases c5
    · refine mm_iload_n dX12_symbol_8 rfl 2 rfl ?_
      refine mm_i2l dX12_symbol_9 ?_
      refine mm_lconst (v := lN 0) dX12_symbol_10 (by decide) ?_
      refine mm_aload_n dX12_symbol_11 rfl 0 rfl ?_
      refine rm_getA 2 dX12_symbol_12 ha zf_sizeOf (by decide) rfl ?_
      refine mm_iload_n dX12_symbol_15 rfl 1 rfl ?_
      refine rm_iald (k := 2) dX12_symbol_16 ha rfl rfl rfl (show n < 6 from (by omega)) ?_
      refine mn_top (u := .int (nI (aSz s n))) (congrArg Value.int (v2)) ?_
      refine mm_iconst (v := nI 1) dX12_symbol_17 (by decide) ?_
      refine mm_isub dX12_symbol_18 ?_
      refine mm_i2l dX12_symbol_19 ?_
      refine rm_callSr (As := [.long ((nI (i)).toInt64), .long (lN (0)), .long (((nI (aSz s n)) - (nI (1))).toInt64)]) (rest := []) (d2 := 0) dX12_symbol_20 zc_isIn rfl rfl (Nat.le_of_ble_eq_true rfl) (Nat.le_of_ble_eq_true rfl) (by decide) (tm_isIn _ _ _) ?_
      refine mn_top (u := .int (nI (Bool.toNat (true)))) (congrArg Value.int (in_t (a := 0) (b := (aSz s n : Int) - 1) (by decide) (in_s (by omega)) (by omega) (by omega) (nI_inb hi (by omega)))) ?_
      refine mn_ifB_eq (tgt := 38) dX12_symbol_23 (by decide) (fun c23 => ?_) (fun c23 => ?_)
      · cases c23
      · refine mm_iload_n dX12_symbol_26 rfl 3 rfl ?_
        refine mm_i2l dX12_symbol_27 ?_
        refine mm_lconst (v := lN 0) dX12_symbol_28 (by decide) ?_
        refine mm_ldc2 (v := (3)) dX12_symbol_29 zk_173 ?_
        refine mn_top (u := .long (lN (3))) (congrArg Value.long (by decide)) ?_
        refine rm_callSr (As := [.long ((nI (2)).toInt64), .long (lN (0)), .long (lN (3))]) (rest := []) (d2 := 0) dX12_symbol_32 zc_isIn rfl rfl (Nat.le_of_ble_eq_true rfl) (Nat.le_of_ble_eq_true rfl) (by decide) (tm_isIn _ _ _) ?_
        refine mn_top (u := .int (nI (Bool.toNat (true)))) (congrArg Value.int (in_t (a := 0) (b := 3) (by decide) (by decide) (by omega) (by omega) (by decide))) ?_
        refine mn_ifB_ne (tgt := 41) dX12_symbol_35 (by decide) (fun c35 => ?_) (fun c35 => ?_)
        · refine mm_bipush (v := nI 24) dX12_symbol_41 (by decide) ?_
          refine mm_iload_n dX12_symbol_43 rfl 1 rfl ?_
          refine mn_imul dX12_symbol_44 ?_
          refine mm_iload_n dX12_symbol_45 rfl 2 rfl ?_
          refine mn_iadd dX12_symbol_46 ?_
          refine mm_istore (L' := [(4, .int (nI (((24) * (n)) + (i)))), (0, .ref (o)), (1, .int (nI (n))), (2, .int (nI (i))), (3, .int (nI (2)))]) dX12_symbol_47 (by decide) rfl ?_
          refine mm_iload_n dX12_symbol_49 rfl 4 rfl ?_
          refine mn_if_ne (tgt := 61) dX12_symbol_50 (by decide) (by omega) (fun c50 => ?_) (fun c50 => ?_)
          · refine mm_iload_n dX12_symbol_61 rfl 4 rfl ?_
            refine mm_iconst (v := nI 1) dX12_symbol_62 (by decide) ?_
            refine mn_icmp_ne (tgt := 89) dX12_symbol_63 (by decide) (by omega) (by omega) (fun c63 => ?_) (fun c63 => ?_)
            · refine mm_aload_n dX12_symbol_89 rfl 1 rfl ?_
              refine rm_getA 6 dX12_symbol_90 ha zf_sortOf (by decide) rfl ?_
              refine mm_iload dX12_symbol_93 0 rfl ?_
              refine rm_iald (k := 6) dX12_symbol_95 ha rfl rfl rfl (show ((24) * (n)) + (i) < 144 from (by omega)) ?_
              refine mn_top (u := .int (nI (aSo s (24 * n + i)))) (congrArg Value.int (s1)) ?_
              refine mm_iconst (v := nI 1) dX12_symbol_96 (by decide) ?_
              refine mn_icmp_eq (tgt := 104) dX12_symbol_97 (by decide) (by omega) (by omega) (fun c97 => ?_) (fun c97 => ?_)
              · refine mm_iload_n dX12_symbol_104 rfl 4 rfl ?_
                refine mm_iconst (v := nI 2) dX12_symbol_105 (by decide) ?_
                refine mn_icmp_ne (tgt := 119) dX12_symbol_106 (by decide) (by omega) (by omega) (fun c106 => ?_) (fun c106 => ?_)
                · omega
                · refine mm_aload_n dX12_symbol_109 rfl 1 rfl ?_
                  refine rm_getA 8 dX12_symbol_110 ha zf_pitchOf (by decide) rfl ?_
                  refine mm_iload dX12_symbol_113 0 rfl ?_
                  refine rm_iald (k := 8) dX12_symbol_115 ha rfl rfl rfl (show ((24) * (n)) + (i) < 144 from (by omega)) ?_
                  refine mn_top (u := .int (Int32.ofInt (aPi s (24 * n + i)))) (congrArg Value.int (s3)) ?_
                  refine mm_goto (tgt := 134) dX12_symbol_116 (by decide) ?_
                  exact mm_iret dX12_symbol_134 rfl (⟨rfl, by unfold symA; rw [if_neg (by decide), if_neg (by decide), if_pos rfl, if_pos (by omega)]⟩)
              · refine mm_iconst (v := (-1)) dX12_symbol_100 (by decide) ?_
                refine mm_goto (tgt := 134) dX12_symbol_101 (by decide) ?_
                exact mm_iret dX12_symbol_134 rfl (⟨rfl, by unfold symA; rw [if_neg (by decide), if_neg (by decide), if_pos rfl, if_neg (by omega)]⟩)
            · omega
          · omega
        · cases c35
  · refine mm_aload_n dX12_symbol_0 rfl 0 rfl ?_
    refine mm_iload_n dX12_symbol_1 rfl 1 rfl ?_
    refine rm_callVr (As := [.int (nI (n))]) (rest := []) (d2 := 1) dX12_symbol_2 ha zc_isVoice zc_isVoice_s rfl rfl rfl (Nat.le_of_ble_eq_true rfl) (Nat.le_of_ble_eq_true rfl) (by decide) (tM_isVoice ha hW hI (nI_inb hn (by have := hW.1.1; omega))) ?_
    refine mn_ifB_eq (tgt := 38) dX12_symbol_5 (by decide) (fun c5 => ?_) (fun c5 => ?_)
    · cases c5
    · refine mm_iload_n dX12_symbol_8 rfl 2 rfl ?_
      refine mm_i2l dX12_symbol_9 ?_
      refine mm_lconst (v := lN 0) dX12_symbol_10 (by decide) ?_
      refine mm_aload_n dX12_symbol_11 rfl 0 rfl ?_
      refine rm_getA 2 dX12_symbol_12 ha zf_sizeOf (by decide) rfl ?_
      refine mm_iload_n dX12_symbol_15 rfl 1 rfl ?_
      refine rm_iald (k := 2) dX12_symbol_16 ha rfl rfl rfl (show n < 6 from (by omega)) ?_
      refine mn_top (u := .int (nI (aSz s n))) (congrArg Value.int (v2)) ?_
      refine mm_iconst (v := nI 1) dX12_symbol_17 (by decide) ?_
      refine mm_isub dX12_symbol_18 ?_
      refine mm_i2l dX12_symbol_19 ?_
      refine rm_callSr (As := [.long ((nI (i)).toInt64), .long (lN (0)), .long (((nI (aSz s n)) - (nI (1))).toInt64)]) (rest := []) (d2 := 0) dX12_symbol_20 zc_isIn rfl rfl (Nat.le_of_ble_eq_true rfl) (Nat.le_of_ble_eq_true rfl) (by decide) (tm_isIn _ _ _) ?_
      refine mn_top (u := .int (nI (Bool.toNat (true)))) (congrArg Value.int (in_t (a := 0) (b := (aSz s n : Int) - 1) (by decide) (in_s (by omega)) (by omega) (by omega) (nI_inb hi (by omega)))) ?_
      refine mn_ifB_eq (tgt := 38) dX12_symbol_23 (by decide) (fun c23 => ?_) (fun c23 => ?_)
      · cases c23
      · refine mm_iload_n dX12_symbol_26 rfl 3 rfl ?_
        refine mm_i2l dX12_symbol_27 ?_
        refine mm_lconst (v := lN 0) dX12_symbol_28 (by decide) ?_
        refine mm_ldc2 (v := (3)) dX12_symbol_29 zk_173 ?_
        refine mn_top (u := .long (lN (3))) (congrArg Value.long (by decide)) ?_
        refine rm_callSr (As := [.long ((nI (3)).toInt64), .long (lN (0)), .long (lN (3))]) (rest := []) (d2 := 0) dX12_symbol_32 zc_isIn rfl rfl (Nat.le_of_ble_eq_true rfl) (Nat.le_of_ble_eq_true rfl) (by decide) (tm_isIn _ _ _) ?_
        refine mn_top (u := .int (nI (Bool.toNat (true)))) (congrArg Value.int (in_t (a := 0) (b := 3) (by decide) (by decide) (by omega) (by omega) (by decide))) ?_
        refine mn_ifB_ne (tgt := 41) dX12_symbol_35 (by decide) (fun c35 => ?_) (fun c35 => ?_)
        · refine mm_bipush (v := nI 24) dX12_symbol_41 (by decide) ?_
          refine mm_iload_n dX12_symbol_43 rfl 1 rfl ?_
          refine mn_imul dX12_symbol_44 ?_
          refine mm_iload_n dX12_symbol_45 rfl 2 rfl ?_
          refine mn_iadd dX12_symbol_46 ?_
          refine mm_istore (L' := [(4, .int (nI (((24) * (n)) + (i)))), (0, .ref (o)), (1, .int (nI (n))), (2, .int (nI (i))), (3, .int (nI (3)))]) dX12_symbol_47 (by decide) rfl ?_
          refine mm_iload_n dX12_symbol_49 rfl 4 rfl ?_
          refine mn_if_ne (tgt := 61) dX12_symbol_50 (by decide) (by omega) (fun c50 => ?_) (fun c50 => ?_)
          · refine mm_iload_n dX12_symbol_61 rfl 4 rfl ?_
            refine mm_iconst (v := nI 1) dX12_symbol_62 (by decide) ?_
            refine mn_icmp_ne (tgt := 89) dX12_symbol_63 (by decide) (by omega) (by omega) (fun c63 => ?_) (fun c63 => ?_)
            · refine mm_aload_n dX12_symbol_89 rfl 1 rfl ?_
              refine rm_getA 6 dX12_symbol_90 ha zf_sortOf (by decide) rfl ?_
              refine mm_iload dX12_symbol_93 0 rfl ?_
              refine rm_iald (k := 6) dX12_symbol_95 ha rfl rfl rfl (show ((24) * (n)) + (i) < 144 from (by omega)) ?_
              refine mn_top (u := .int (nI (aSo s (24 * n + i)))) (congrArg Value.int (s1)) ?_
              refine mm_iconst (v := nI 1) dX12_symbol_96 (by decide) ?_
              refine mn_icmp_eq (tgt := 104) dX12_symbol_97 (by decide) (by omega) (by omega) (fun c97 => ?_) (fun c97 => ?_)
              · refine mm_iload_n dX12_symbol_104 rfl 4 rfl ?_
                refine mm_iconst (v := nI 2) dX12_symbol_105 (by decide) ?_
                refine mn_icmp_ne (tgt := 119) dX12_symbol_106 (by decide) (by omega) (by omega) (fun c106 => ?_) (fun c106 => ?_)
                · refine mm_aload_n dX12_symbol_119 rfl 1 rfl ?_
                  refine rm_getA 9 dX12_symbol_120 ha zf_isColoured (by decide) rfl ?_
                  refine mm_iload dX12_symbol_123 0 rfl ?_
                  refine rm_zald (k := 9) dX12_symbol_125 ha rfl rfl rfl (show ((24) * (n)) + (i) < 144 from (by omega)) ?_
                  refine mn_top (u := .int (nI (Bool.toNat (aCo s (24 * n + i))))) (congrArg Value.int (s4)) ?_
                  refine mn_ifB_eq (tgt := 133) dX12_symbol_126 (by decide) (fun c126 => ?_) (fun c126 => ?_)
                  · refine mm_iconst (v := nI 0) dX12_symbol_133 (by decide) ?_
                    exact mm_iret dX12_symbol_134 rfl (⟨rfl, by unfold symA; rw [if_neg (by decide), if_neg (by decide), if_neg (by decide), if_pos (by omega), c126]; rfl⟩)
                  · refine mm_iconst (v := nI 1) dX12_symbol_129 (by decide) ?_
                    refine mm_goto (tgt := 134) dX12_symbol_130 (by decide) ?_
                    exact mm_iret dX12_symbol_134 rfl (⟨rfl, by unfold symA; rw [if_neg (by decide), if_neg (by decide), if_neg (by decide), if_pos (by omega), c126]; rfl⟩)
                · omega
              · refine mm_iconst (v := (-1)) dX12_symbol_100 (by decide) ?_
                refine mm_goto (tgt := 134) dX12_symbol_101 (by decide) ?_
                exact mm_iret dX12_symbol_134 rfl (⟨rfl, by unfold symA; rw [if_neg (by decide), if_neg (by decide), if_neg (by decide), if_neg (by omega)]⟩)
            · omega
          · omega
        · cases c35
set_option maxRecDepth 100000 in
set_option maxHeartbeats 4000000 in
theorem tM_symbolO {l : Launch} {D : va_G} {aa : Nat → ClassId} {b0 : Nat} {h : mm_H} {o : Nat} {F : Nat → Int32} {G : Nat → Int64} {A : Nat → Nat → Int32} {B : Nat → Nat → Int64} {s : aS} {n : Nat} {i : Nat} {w : Int32} (ha : rm_at o F G A B h) (hW : WF s) (hI : RI s F A B) (hn : n < aNv s) (hi : i < aSz s n) (hw : w < 0 ∨ nI 4 ≤ w) : mm_V (zz_K l D aa b0) 3 yX12_symbol cX12_symbol 5 (some .int) 0 [(0, .ref (o)), (1, .int (nI (n))), (2, .int (nI (i))), (3, .int (w))] [] h 0 0 (fun r h' => h' = h ∧ r = some (.int (-2))) := by
  have hf : rm_fr o h h := rm_fr.rf
  have hn6 : n < 6 := by have := hW.1.1; omega
  have hvok := hW.2.1 n hn6
  have hsz24 : aSz s n ≤ 24 := hvok.1.2
  obtain ⟨⟨v1, w1⟩, ⟨v2, w2⟩, ⟨v3, w3⟩, ⟨v4, w4⟩, v5, w5⟩ := hI.1.2 n hn6
  obtain ⟨⟨s1, u1⟩, ⟨s2, u2⟩, ⟨s3, u3⟩, s4, ⟨s5, u5⟩, s6, u6⟩ := hI.2.1 (24 * n + i) (by omega)
  refine mm_aload_n dX12_symbol_0 rfl 0 rfl ?_
  refine mm_iload_n dX12_symbol_1 rfl 1 rfl ?_
  refine rm_callVr (As := [.int (nI (n))]) (rest := []) (d2 := 1) dX12_symbol_2 ha zc_isVoice zc_isVoice_s rfl rfl rfl (Nat.le_of_ble_eq_true rfl) (Nat.le_of_ble_eq_true rfl) (by decide) (tM_isVoice ha hW hI (nI_inb hn (by have := hW.1.1; omega))) ?_
  refine mn_ifB_eq (tgt := 38) dX12_symbol_5 (by decide) (fun c5 => ?_) (fun c5 => ?_)
  · cases c5
  · refine mm_iload_n dX12_symbol_8 rfl 2 rfl ?_
    refine mm_i2l dX12_symbol_9 ?_
    refine mm_lconst (v := lN 0) dX12_symbol_10 (by decide) ?_
    refine mm_aload_n dX12_symbol_11 rfl 0 rfl ?_
    refine rm_getA 2 dX12_symbol_12 ha zf_sizeOf (by decide) rfl ?_
    refine mm_iload_n dX12_symbol_15 rfl 1 rfl ?_
    refine rm_iald (k := 2) dX12_symbol_16 ha rfl rfl rfl (show n < 6 from (by omega)) ?_
    refine mn_top (u := .int (nI (aSz s n))) (congrArg Value.int (v2)) ?_
    refine mm_iconst (v := nI 1) dX12_symbol_17 (by decide) ?_
    refine mm_isub dX12_symbol_18 ?_
    refine mm_i2l dX12_symbol_19 ?_
    refine rm_callSr (As := [.long ((nI (i)).toInt64), .long (lN (0)), .long (((nI (aSz s n)) - (nI (1))).toInt64)]) (rest := []) (d2 := 0) dX12_symbol_20 zc_isIn rfl rfl (Nat.le_of_ble_eq_true rfl) (Nat.le_of_ble_eq_true rfl) (by decide) (tm_isIn _ _ _) ?_
    refine mn_top (u := .int (nI (Bool.toNat (true)))) (congrArg Value.int (in_t (a := 0) (b := (aSz s n : Int) - 1) (by decide) (in_s (by omega)) (by omega) (by omega) (nI_inb hi (by omega)))) ?_
    refine mn_ifB_eq (tgt := 38) dX12_symbol_23 (by decide) (fun c23 => ?_) (fun c23 => ?_)
    · cases c23
    · refine mm_iload_n dX12_symbol_26 rfl 3 rfl ?_
      refine mm_i2l dX12_symbol_27 ?_
      refine mm_lconst (v := lN 0) dX12_symbol_28 (by decide) ?_
      refine mm_ldc2 (v := (3)) dX12_symbol_29 zk_173 ?_
      refine mn_top (u := .long (lN (3))) (congrArg Value.long (by decide)) ?_
      refine rm_callSr (As := [.long ((w).toInt64), .long (lN (0)), .long (lN (3))]) (rest := []) (d2 := 0) dX12_symbol_32 zc_isIn rfl rfl (Nat.le_of_ble_eq_true rfl) (Nat.le_of_ble_eq_true rfl) (by decide) (tm_isIn _ _ _) ?_
      refine mn_top (u := .int (nI (Bool.toNat (false)))) (congrArg Value.int (in_f (a := 0) (b := 3) (by decide) (by decide) (by omega) (by omega) (fun q => by have := i32_out (by decide) hw; omega))) ?_
      refine mn_ifB_ne (tgt := 41) dX12_symbol_35 (by decide) (fun c35 => ?_) (fun c35 => ?_)
      · cases c35
      · refine mm_bipush (v := (-2)) dX12_symbol_38 (by decide) ?_
        exact mm_iret dX12_symbol_40 rfl (⟨rfl, rfl⟩)
set_option maxRecDepth 100000 in
set_option maxHeartbeats 4000000 in
theorem tM_symbolI {l : Launch} {D : va_G} {aa : Nat → ClassId} {b0 : Nat} {h : mm_H} {o : Nat} {F : Nat → Int32} {G : Nat → Int64} {A : Nat → Nat → Int32} {B : Nat → Nat → Int64} {s : aS} {n : Nat} {i w : Int32} (ha : rm_at o F G A B h) (hW : WF s) (hI : RI s F A B) (hn : n < aNv s) (hi : i < 0 ∨ nI (aSz s n) ≤ i) : mm_V (zz_K l D aa b0) 3 yX12_symbol cX12_symbol 5 (some .int) 0 [(0, .ref (o)), (1, .int (nI (n))), (2, .int (i)), (3, .int (w))] [] h 0 0 (fun r h' => h' = h ∧ r = some (.int (-2))) := by
  have hf : rm_fr o h h := rm_fr.rf
  have hn6 : n < 6 := by have := hW.1.1; omega
  have hvok := hW.2.1 n hn6
  have hsz24 : aSz s n ≤ 24 := hvok.1.2
  obtain ⟨⟨v1, w1⟩, ⟨v2, w2⟩, ⟨v3, w3⟩, ⟨v4, w4⟩, v5, w5⟩ := hI.1.2 n hn6
  refine mm_aload_n dX12_symbol_0 rfl 0 rfl ?_
  refine mm_iload_n dX12_symbol_1 rfl 1 rfl ?_
  refine rm_callVr (As := [.int (nI (n))]) (rest := []) (d2 := 1) dX12_symbol_2 ha zc_isVoice zc_isVoice_s rfl rfl rfl (Nat.le_of_ble_eq_true rfl) (Nat.le_of_ble_eq_true rfl) (by decide) (tM_isVoice ha hW hI (nI_inb hn (by have := hW.1.1; omega))) ?_
  refine mn_ifB_eq (tgt := 38) dX12_symbol_5 (by decide) (fun c5 => ?_) (fun c5 => ?_)
  · cases c5
  · refine mm_iload_n dX12_symbol_8 rfl 2 rfl ?_
    refine mm_i2l dX12_symbol_9 ?_
    refine mm_lconst (v := lN 0) dX12_symbol_10 (by decide) ?_
    refine mm_aload_n dX12_symbol_11 rfl 0 rfl ?_
    refine rm_getA 2 dX12_symbol_12 ha zf_sizeOf (by decide) rfl ?_
    refine mm_iload_n dX12_symbol_15 rfl 1 rfl ?_
    refine rm_iald (k := 2) dX12_symbol_16 ha rfl rfl rfl (show n < 6 from (by omega)) ?_
    refine mn_top (u := .int (nI (aSz s n))) (congrArg Value.int (v2)) ?_
    refine mm_iconst (v := nI 1) dX12_symbol_17 (by decide) ?_
    refine mm_isub dX12_symbol_18 ?_
    refine mm_i2l dX12_symbol_19 ?_
    refine rm_callSr (As := [.long ((i).toInt64), .long (lN (0)), .long (((nI (aSz s n)) - (nI (1))).toInt64)]) (rest := []) (d2 := 0) dX12_symbol_20 zc_isIn rfl rfl (Nat.le_of_ble_eq_true rfl) (Nat.le_of_ble_eq_true rfl) (by decide) (tm_isIn _ _ _) ?_
    refine mn_top (u := .int (nI (Bool.toNat (false)))) (congrArg Value.int (in_f (a := 0) (b := (aSz s n : Int) - 1) (by decide) (in_s (by omega)) (by omega) (by omega) (out_in (by omega) hi))) ?_
    refine mn_ifB_eq (tgt := 38) dX12_symbol_23 (by decide) (fun c23 => ?_) (fun c23 => ?_)
    · refine mm_bipush (v := (-2)) dX12_symbol_38 (by decide) ?_
      exact mm_iret dX12_symbol_40 rfl (⟨rfl, rfl⟩)
    · cases c23
