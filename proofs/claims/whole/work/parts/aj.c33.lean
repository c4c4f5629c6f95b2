/-! Writer: which choices fit -/
set_option maxRecDepth 100000 in
set_option maxHeartbeats 4000000 in
theorem cv_isPerfectM {l : Launch} {D : va_G} {aa : Nat → ClassId} {b0 : Nat} {h : mm_H} {o : Nat} {X : Nat → Nat → Int32} {Y : Nat → Nat → Int64} {rl : Option Nat} {a : Nat} (ha : cm_at o X Y rl h) (hva : vA a) : mm_V (zz_K l D aa b0) 0 yX9_isPerfect cX9_isPerfect 2 (some .boolean) 0 [(0, .ref (o + a)), (1, .int ((-1)))] [] h 0 0 (fun rv h' => h' = h ∧ rv = some (.int (nI (Bool.toNat false)))) := by
  refine mm_iload_n dX9_isPerfect_0 rfl 1 rfl ?_
  refine mm_if_lt (tgt := 25) dX9_isPerfect_1 (by decide) (fun c1 => ?_) (fun c1 => ?_)
  · refine mm_iconst (v := nI 0) dX9_isPerfect_25 (by decide) ?_
    exact mm_zret dX9_isPerfect_26 rfl (by decide) (⟨rfl, rfl⟩)
  · exact absurd (by decide) c1
set_option maxRecDepth 100000 in
set_option maxHeartbeats 4000000 in
theorem cw_canBe {l : Launch} {D : va_G} {aa : Nat → ClassId} {b0 : Nat} {h : mm_H} {o : Nat} {X : Nat → Nat → Int32} {Y : Nat → Nat → Int64} {rl : Option Nat} {sg k : Nat} {dt : Bool} {x : Int32} (ha : cm_at o X Y rl h) (hvs : vs_ X 36 sg) (hk : k < 7) : mm_V (zz_K l D aa b0) 2 yX10_canBe cX10_canBe 7 (some .boolean) 0 [(0, .ref (o + 35)), (1, .int (nI (k))), (2, .int (nI (Bool.toNat (dt)))), (3, .int (x))] [] h 0 0 (fun rv h' => h' = h ∧ rv = some (.int (nI (Bool.toNat (cbB sg k dt x))))) := by
  have hva : vA 36 := Or.inl rfl
  obtain ⟨hv1, hv2, hv3, hv4⟩ := hvs
  have hfl := fl_b2 hv2 k
  have hk3 : k = 0 ∨ (1 ≤ k ∧ k < 6) ∨ k = 6 := by omega
  rcases hk3 with rfl | hk3 | rfl
  · refine mm_aload_n dX10_canBe_0 rfl 0 rfl ?_
    refine cm_getR (b := 36) dX10_canBe_1 ha zr_X10_14 (by decide) rfl rfl rfl ?_
    refine mm_iload_n dX10_canBe_4 rfl 1 rfl ?_
    refine cm_callVr (As := [.int (nI (0))]) (rest := []) (d2 := 1) dX10_canBe_5 ha (by decide) rfl zz_clX9 zc_X10_61 zs_X9_fullOf rfl rfl (Nat.le_of_ble_eq_true rfl) (Nat.le_of_ble_eq_true rfl) (by decide) (cv_fullOf (a := 36) (k := 0) ha hva hv4 (by omega)) ?_
    refine mn_top (u := .int (nI (fl_ sg 0))) (congrArg Value.int (by rw [if_pos (by omega)])) ?_
    refine mm_istore (L' := [(4, .int (nI (fl_ sg 0))), (0, .ref (o + 35)), (1, .int (nI (0))), (2, .int (nI (Bool.toNat (dt)))), (3, .int (x))]) dX10_canBe_8 (by decide) rfl ?_
    refine mm_aload_n dX10_canBe_10 rfl 1 rfl ?_
    refine cm_getR (b := 36) dX10_canBe_11 ha zr_X10_14 (by decide) rfl rfl rfl ?_
    refine mm_iload_n dX10_canBe_14 rfl 2 rfl ?_
    refine mm_iconst (v := nI 1) dX10_canBe_15 (by decide) ?_
    refine mn_iadd dX10_canBe_16 ?_
    refine cm_callVr (As := [.int (nI ((0) + (1)))]) (rest := []) (d2 := 1) dX10_canBe_17 ha (by decide) rfl zz_clX9 zc_X10_61 zs_X9_fullOf rfl rfl (Nat.le_of_ble_eq_true rfl) (Nat.le_of_ble_eq_true rfl) (by decide) (cv_fullOf (a := 36) (k := 0 + 1) ha hva hv4 (by omega)) ?_
    refine mn_top (u := .int (nI (fl_ sg (0 + 1)))) (congrArg Value.int (by rw [if_pos (by omega)])) ?_
    refine mm_istore (L' := [(5, .int (nI (fl_ sg (0 + 1)))), (4, .int (nI (fl_ sg 0))), (0, .ref (o + 35)), (1, .int (nI (0))), (2, .int (nI (Bool.toNat (dt)))), (3, .int (x))]) dX10_canBe_20 (by decide) rfl ?_
    refine mm_aload_n dX10_canBe_22 rfl 2 rfl ?_
    refine cm_getR (b := 36) dX10_canBe_23 ha zr_X10_14 (by decide) rfl rfl rfl ?_
    refine mm_iload_n dX10_canBe_26 rfl 3 rfl ?_
    refine cm_callVr (As := [.int (nI (0))]) (rest := []) (d2 := 0) dX10_canBe_27 ha (by decide) rfl zz_clX9 zc_X10_65 zs_X9_isPerfect rfl rfl (Nat.le_of_ble_eq_true rfl) (Nat.le_of_ble_eq_true rfl) (by decide) (cv_isPerfect (a := 36) (k := 0) ha hva hv1 hv2 (by omega)) ?_
    refine mm_istore (L' := [(6, .int (nI (Bool.toNat (sp_perf sg 0)))), (5, .int (nI (fl_ sg (0 + 1)))), (4, .int (nI (fl_ sg 0))), (0, .ref (o + 35)), (1, .int (nI (0))), (2, .int (nI (Bool.toNat (dt)))), (3, .int (x))]) dX10_canBe_30 (by decide) rfl ?_
    refine mm_iload_n dX10_canBe_32 rfl 6 rfl ?_
    refine mm_iload dX10_canBe_33 2 rfl ?_
    refine mm_icmp_eq (tgt := 89) dX10_canBe_35 (by decide) (fun c35 => ?_) (fun c35 => ?_)
    · refine mm_iconst (v := nI 1) dX10_canBe_89 (by decide) ?_
      refine mm_goto (tgt := 94) dX10_canBe_90 (by decide) ?_
      have d35 : decide (x = nI (fl_ sg 0)) = true := decide_eq_true c35
      have z1 : decide (1 ≤ 0) = false := rfl
      have e : cbB sg 0 dt x = true := by
        unfold cbB
        rw [if_pos (by decide)]
        simp only [d35, z1, Bool.false_or, Bool.or_false, Bool.true_or, Bool.or_true, Bool.and_true, Bool.true_and, Bool.and_false, Bool.false_and, Bool.not_true, Bool.not_false]
      exact mm_zret dX10_canBe_94 rfl (by decide) (⟨rfl, by rw [e]; rfl⟩)
    · refine mm_iload dX10_canBe_38 0 rfl ?_
      refine mn_ifB_eq (tgt := 51) dX10_canBe_40 (by decide) (fun c40 => ?_) (fun c40 => ?_)
      · refine mm_aload_n dX10_canBe_51 rfl 3 rfl ?_
        refine cm_getR (b := 36) dX10_canBe_52 ha zr_X10_14 (by decide) rfl rfl rfl ?_
        refine mm_iload_n dX10_canBe_55 rfl 4 rfl ?_
        refine mm_iconst (v := nI 1) dX10_canBe_56 (by decide) ?_
        refine mm_isub dX10_canBe_57 ?_
        refine mn_top (u := .int ((-1))) (congrArg Value.int (by decide)) ?_
        refine cm_callVr (As := [.int ((-1))]) (rest := []) (d2 := 0) dX10_canBe_58 ha (by decide) rfl zz_clX9 zc_X10_65 zs_X9_isPerfect rfl rfl (Nat.le_of_ble_eq_true rfl) (Nat.le_of_ble_eq_true rfl) (by decide) (cv_isPerfectM (a := 36) ha hva) ?_
        refine mn_ifB_eq (tgt := 72) dX10_canBe_61 (by decide) (fun c61 => ?_) (fun c61 => ?_)
        · refine mm_iload_n dX10_canBe_72 rfl 5 rfl ?_
          refine mn_ifB_eq (tgt := 93) dX10_canBe_73 (by decide) (fun c73 => ?_) (fun c73 => ?_)
          · refine mm_iconst (v := nI 0) dX10_canBe_93 (by decide) ?_
            have d35 : decide (x = nI (fl_ sg 0)) = false := decide_eq_false c35
            have z1 : decide (1 ≤ 0) = false := rfl
            have e : cbB sg 0 dt x = false := by
              unfold cbB
              rw [if_pos (by decide)]
              simp only [d35, c40, c73, z1, Bool.false_or, Bool.or_false, Bool.true_or, Bool.or_true, Bool.and_true, Bool.true_and, Bool.and_false, Bool.false_and, Bool.not_true, Bool.not_false]
            exact mm_zret dX10_canBe_94 rfl (by decide) (⟨rfl, by rw [e]; rfl⟩)
          · refine mm_iload dX10_canBe_76 0 rfl ?_
            refine mn_ifB_ne (tgt := 93) dX10_canBe_78 (by decide) (fun c78 => ?_) (fun c78 => ?_)
            · rw [c40] at c78; cases c78
            · refine mm_iload_n dX10_canBe_81 rfl 6 rfl ?_
              refine mm_iconst (v := nI 3) dX10_canBe_82 (by decide) ?_
              refine mm_iload dX10_canBe_83 1 rfl ?_
              refine mn_imul dX10_canBe_85 ?_
              refine mm_icmp_ne (tgt := 93) dX10_canBe_86 (by decide) (fun c86 => ?_) (fun c86 => ?_)
              · refine mm_iconst (v := nI 0) dX10_canBe_93 (by decide) ?_
                have d35 : decide (x = nI (fl_ sg 0)) = false := decide_eq_false c35
                have d86 : decide (x = nI (3 * fl_ sg (0 + 1))) = false := decide_eq_false c86
                have z1 : decide (1 ≤ 0) = false := rfl
                have e : cbB sg 0 dt x = false := by
                  unfold cbB
                  rw [if_pos (by decide)]
                  simp only [d35, c40, c73, c78, d86, z1, Bool.false_or, Bool.or_false, Bool.true_or, Bool.or_true, Bool.and_true, Bool.true_and, Bool.and_false, Bool.false_and, Bool.not_true, Bool.not_false]
                exact mm_zret dX10_canBe_94 rfl (by decide) (⟨rfl, by rw [e]; rfl⟩)
              · refine mm_iconst (v := nI 1) dX10_canBe_89 (by decide) ?_
                refine mm_goto (tgt := 94) dX10_canBe_90 (by decide) ?_
                have d35 : decide (x = nI (fl_ sg 0)) = false := decide_eq_false c35
                have d86 : decide (x = nI (3 * fl_ sg (0 + 1))) = true := decide_eq_true c86
                have z1 : decide (1 ≤ 0) = false := rfl
                have e : cbB sg 0 dt x = true := by
                  unfold cbB
                  rw [if_pos (by decide)]
                  simp only [d35, c40, c73, c78, d86, z1, Bool.false_or, Bool.or_false, Bool.true_or, Bool.or_true, Bool.and_true, Bool.true_and, Bool.and_false, Bool.false_and, Bool.not_true, Bool.not_false]
                exact mm_zret dX10_canBe_94 rfl (by decide) (⟨rfl, by rw [e]; rfl⟩)
        · cases c61
      · refine mm_iload_n dX10_canBe_43 rfl 6 rfl ?_
        refine mm_iconst (v := nI 2) dX10_canBe_44 (by decide) ?_
        refine mm_iload dX10_canBe_45 1 rfl ?_
        refine mn_imul dX10_canBe_47 ?_
        refine mm_icmp_eq (tgt := 89) dX10_canBe_48 (by decide) (fun c48 => ?_) (fun c48 => ?_)
        · refine mm_iconst (v := nI 1) dX10_canBe_89 (by decide) ?_
          refine mm_goto (tgt := 94) dX10_canBe_90 (by decide) ?_
          have d35 : decide (x = nI (fl_ sg 0)) = false := decide_eq_false c35
          have d48 : decide (x = nI (2 * fl_ sg (0 + 1))) = true := decide_eq_true c48
          have z1 : decide (1 ≤ 0) = false := rfl
          have e : cbB sg 0 dt x = true := by
            unfold cbB
            rw [if_pos (by decide)]
            simp only [d35, c40, d48, z1, Bool.false_or, Bool.or_false, Bool.true_or, Bool.or_true, Bool.and_true, Bool.true_and, Bool.and_false, Bool.false_and, Bool.not_true, Bool.not_false]
          exact mm_zret dX10_canBe_94 rfl (by decide) (⟨rfl, by rw [e]; rfl⟩)
        · refine mm_aload_n dX10_canBe_51 rfl 3 rfl ?_
          refine cm_getR (b := 36) dX10_canBe_52 ha zr_X10_14 (by decide) rfl rfl rfl ?_
          refine mm_iload_n dX10_canBe_55 rfl 4 rfl ?_
          refine mm_iconst (v := nI 1) dX10_canBe_56 (by decide) ?_
          refine mm_isub dX10_canBe_57 ?_
          refine mn_top (u := .int ((-1))) (congrArg Value.int (by decide)) ?_
          refine cm_callVr (As := [.int ((-1))]) (rest := []) (d2 := 0) dX10_canBe_58 ha (by decide) rfl zz_clX9 zc_X10_65 zs_X9_isPerfect rfl rfl (Nat.le_of_ble_eq_true rfl) (Nat.le_of_ble_eq_true rfl) (by decide) (cv_isPerfectM (a := 36) ha hva) ?_
          refine mn_ifB_eq (tgt := 72) dX10_canBe_61 (by decide) (fun c61 => ?_) (fun c61 => ?_)
          · refine mm_iload_n dX10_canBe_72 rfl 5 rfl ?_
            refine mn_ifB_eq (tgt := 93) dX10_canBe_73 (by decide) (fun c73 => ?_) (fun c73 => ?_)
            · refine mm_iconst (v := nI 0) dX10_canBe_93 (by decide) ?_
              have d35 : decide (x = nI (fl_ sg 0)) = false := decide_eq_false c35
              have d48 : decide (x = nI (2 * fl_ sg (0 + 1))) = false := decide_eq_false c48
              have z1 : decide (1 ≤ 0) = false := rfl
              have e : cbB sg 0 dt x = false := by
                unfold cbB
                rw [if_pos (by decide)]
                simp only [d35, c40, d48, c73, z1, Bool.false_or, Bool.or_false, Bool.true_or, Bool.or_true, Bool.and_true, Bool.true_and, Bool.and_false, Bool.false_and, Bool.not_true, Bool.not_false]
              exact mm_zret dX10_canBe_94 rfl (by decide) (⟨rfl, by rw [e]; rfl⟩)
            · refine mm_iload dX10_canBe_76 0 rfl ?_
              refine mn_ifB_ne (tgt := 93) dX10_canBe_78 (by decide) (fun c78 => ?_) (fun c78 => ?_)
              · refine mm_iconst (v := nI 0) dX10_canBe_93 (by decide) ?_
                have d35 : decide (x = nI (fl_ sg 0)) = false := decide_eq_false c35
                have d48 : decide (x = nI (2 * fl_ sg (0 + 1))) = false := decide_eq_false c48
                have z1 : decide (1 ≤ 0) = false := rfl
                have e : cbB sg 0 dt x = false := by
                  unfold cbB
                  rw [if_pos (by decide)]
                  simp only [d35, c40, d48, c73, c78, z1, Bool.false_or, Bool.or_false, Bool.true_or, Bool.or_true, Bool.and_true, Bool.true_and, Bool.and_false, Bool.false_and, Bool.not_true, Bool.not_false]
                exact mm_zret dX10_canBe_94 rfl (by decide) (⟨rfl, by rw [e]; rfl⟩)
              · rw [c40] at c78; cases c78
          · cases c61
  · refine mm_aload_n dX10_canBe_0 rfl 0 rfl ?_
    refine cm_getR (b := 36) dX10_canBe_1 ha zr_X10_14 (by decide) rfl rfl rfl ?_
    refine mm_iload_n dX10_canBe_4 rfl 1 rfl ?_
    refine cm_callVr (As := [.int (nI (k))]) (rest := []) (d2 := 1) dX10_canBe_5 ha (by decide) rfl zz_clX9 zc_X10_61 zs_X9_fullOf rfl rfl (Nat.le_of_ble_eq_true rfl) (Nat.le_of_ble_eq_true rfl) (by decide) (cv_fullOf (a := 36) (k := k) ha hva hv4 (by omega)) ?_
    refine mn_top (u := .int (nI (fl_ sg k))) (congrArg Value.int (by rw [if_pos (by omega)])) ?_
    refine mm_istore (L' := [(4, .int (nI (fl_ sg k))), (0, .ref (o + 35)), (1, .int (nI (k))), (2, .int (nI (Bool.toNat (dt)))), (3, .int (x))]) dX10_canBe_8 (by decide) rfl ?_
    refine mm_aload_n dX10_canBe_10 rfl 1 rfl ?_
    refine cm_getR (b := 36) dX10_canBe_11 ha zr_X10_14 (by decide) rfl rfl rfl ?_
    refine mm_iload_n dX10_canBe_14 rfl 2 rfl ?_
    refine mm_iconst (v := nI 1) dX10_canBe_15 (by decide) ?_
    refine mn_iadd dX10_canBe_16 ?_
    refine cm_callVr (As := [.int (nI ((k) + (1)))]) (rest := []) (d2 := 1) dX10_canBe_17 ha (by decide) rfl zz_clX9 zc_X10_61 zs_X9_fullOf rfl rfl (Nat.le_of_ble_eq_true rfl) (Nat.le_of_ble_eq_true rfl) (by decide) (cv_fullOf (a := 36) (k := k + 1) ha hva hv4 (by omega)) ?_
    refine mn_top (u := .int (nI (fl_ sg (k + 1)))) (congrArg Value.int (by rw [if_pos (by omega)])) ?_
    refine mm_istore (L' := [(5, .int (nI (fl_ sg (k + 1)))), (4, .int (nI (fl_ sg k))), (0, .ref (o + 35)), (1, .int (nI (k))), (2, .int (nI (Bool.toNat (dt)))), (3, .int (x))]) dX10_canBe_20 (by decide) rfl ?_
    refine mm_aload_n dX10_canBe_22 rfl 2 rfl ?_
    refine cm_getR (b := 36) dX10_canBe_23 ha zr_X10_14 (by decide) rfl rfl rfl ?_
    refine mm_iload_n dX10_canBe_26 rfl 3 rfl ?_
    refine cm_callVr (As := [.int (nI (k))]) (rest := []) (d2 := 0) dX10_canBe_27 ha (by decide) rfl zz_clX9 zc_X10_65 zs_X9_isPerfect rfl rfl (Nat.le_of_ble_eq_true rfl) (Nat.le_of_ble_eq_true rfl) (by decide) (cv_isPerfect (a := 36) (k := k) ha hva hv1 hv2 (by omega)) ?_
    refine mm_istore (L' := [(6, .int (nI (Bool.toNat (sp_perf sg k)))), (5, .int (nI (fl_ sg (k + 1)))), (4, .int (nI (fl_ sg k))), (0, .ref (o + 35)), (1, .int (nI (k))), (2, .int (nI (Bool.toNat (dt)))), (3, .int (x))]) dX10_canBe_30 (by decide) rfl ?_
    refine mm_iload_n dX10_canBe_32 rfl 6 rfl ?_
    refine mm_iload dX10_canBe_33 2 rfl ?_
    refine mm_icmp_eq (tgt := 89) dX10_canBe_35 (by decide) (fun c35 => ?_) (fun c35 => ?_)
    · refine mm_iconst (v := nI 1) dX10_canBe_89 (by decide) ?_
      refine mm_goto (tgt := 94) dX10_canBe_90 (by decide) ?_
      have d35 : decide (x = nI (fl_ sg k)) = true := decide_eq_true c35
      have z1 : decide (1 ≤ k) = true := decide_eq_true hk3.1
      have e : cbB sg k dt x = true := by
        unfold cbB
        rw [if_pos hk3.2]
        simp only [d35, z1, Bool.false_or, Bool.or_false, Bool.true_or, Bool.or_true, Bool.and_true, Bool.true_and, Bool.and_false, Bool.false_and, Bool.not_true, Bool.not_false]
      exact mm_zret dX10_canBe_94 rfl (by decide) (⟨rfl, by rw [e]; rfl⟩)
    · refine mm_iload dX10_canBe_38 0 rfl ?_
      refine mn_ifB_eq (tgt := 51) dX10_canBe_40 (by decide) (fun c40 => ?_) (fun c40 => ?_)
      · refine mm_aload_n dX10_canBe_51 rfl 3 rfl ?_
        refine cm_getR (b := 36) dX10_canBe_52 ha zr_X10_14 (by decide) rfl rfl rfl ?_
        refine mm_iload_n dX10_canBe_55 rfl 4 rfl ?_
        refine mm_iconst (v := nI 1) dX10_canBe_56 (by decide) ?_
        refine mn_isub dX10_canBe_57 (by omega) ?_
        refine cm_callVr (As := [.int (nI ((k) - (1)))]) (rest := []) (d2 := 0) dX10_canBe_58 ha (by decide) rfl zz_clX9 zc_X10_65 zs_X9_isPerfect rfl rfl (Nat.le_of_ble_eq_true rfl) (Nat.le_of_ble_eq_true rfl) (by decide) (cv_isPerfect (a := 36) (k := k - 1) ha hva hv1 hv2 (by omega)) ?_
        refine mn_ifB_eq (tgt := 72) dX10_canBe_61 (by decide) (fun c61 => ?_) (fun c61 => ?_)
        · refine mm_iload_n dX10_canBe_72 rfl 5 rfl ?_
          refine mn_ifB_eq (tgt := 93) dX10_canBe_73 (by decide) (fun c73 => ?_) (fun c73 => ?_)
          · refine mm_iconst (v := nI 0) dX10_canBe_93 (by decide) ?_
            have d35 : decide (x = nI (fl_ sg k)) = false := decide_eq_false c35
            have z1 : decide (1 ≤ k) = true := decide_eq_true hk3.1
            have e : cbB sg k dt x = false := by
              unfold cbB
              rw [if_pos hk3.2]
              simp only [d35, c40, c61, c73, z1, Bool.false_or, Bool.or_false, Bool.true_or, Bool.or_true, Bool.and_true, Bool.true_and, Bool.and_false, Bool.false_and, Bool.not_true, Bool.not_false]
            exact mm_zret dX10_canBe_94 rfl (by decide) (⟨rfl, by rw [e]; rfl⟩)
          · refine mm_iload dX10_canBe_76 0 rfl ?_
            refine mn_ifB_ne (tgt := 93) dX10_canBe_78 (by decide) (fun c78 => ?_) (fun c78 => ?_)
            · rw [c40] at c78; cases c78
            · refine mm_iload_n dX10_canBe_81 rfl 6 rfl ?_
              refine mm_iconst (v := nI 3) dX10_canBe_82 (by decide) ?_
              refine mm_iload dX10_canBe_83 1 rfl ?_
              refine mn_imul dX10_canBe_85 ?_
              refine mm_icmp_ne (tgt := 93) dX10_canBe_86 (by decide) (fun c86 => ?_) (fun c86 => ?_)
              · refine mm_iconst (v := nI 0) dX10_canBe_93 (by decide) ?_
                have d35 : decide (x = nI (fl_ sg k)) = false := decide_eq_false c35
                have d86 : decide (x = nI (3 * fl_ sg (k + 1))) = false := decide_eq_false c86
                have z1 : decide (1 ≤ k) = true := decide_eq_true hk3.1
                have e : cbB sg k dt x = false := by
                  unfold cbB
                  rw [if_pos hk3.2]
                  simp only [d35, c40, c61, c73, c78, d86, z1, Bool.false_or, Bool.or_false, Bool.true_or, Bool.or_true, Bool.and_true, Bool.true_and, Bool.and_false, Bool.false_and, Bool.not_true, Bool.not_false]
                exact mm_zret dX10_canBe_94 rfl (by decide) (⟨rfl, by rw [e]; rfl⟩)
              · refine mm_iconst (v := nI 1) dX10_canBe_89 (by decide) ?_
                refine mm_goto (tgt := 94) dX10_canBe_90 (by decide) ?_
                have d35 : decide (x = nI (fl_ sg k)) = false := decide_eq_false c35
                have d86 : decide (x = nI (3 * fl_ sg (k + 1))) = true := decide_eq_true c86
                have z1 : decide (1 ≤ k) = true := decide_eq_true hk3.1
                have e : cbB sg k dt x = true := by
                  unfold cbB
                  rw [if_pos hk3.2]
                  simp only [d35, c40, c61, c73, c78, d86, z1, Bool.false_or, Bool.or_false, Bool.true_or, Bool.or_true, Bool.and_true, Bool.true_and, Bool.and_false, Bool.false_and, Bool.not_true, Bool.not_false]
                exact mm_zret dX10_canBe_94 rfl (by decide) (⟨rfl, by rw [e]; rfl⟩)
        · refine mm_iload_n dX10_canBe_64 rfl 6 rfl ?_
          refine mm_iconst (v := nI 2) dX10_canBe_65 (by decide) ?_
          refine mm_iload dX10_canBe_66 2 rfl ?_
          refine mn_imul dX10_canBe_68 ?_
          refine mm_icmp_eq (tgt := 89) dX10_canBe_69 (by decide) (fun c69 => ?_) (fun c69 => ?_)
          · refine mm_iconst (v := nI 1) dX10_canBe_89 (by decide) ?_
            refine mm_goto (tgt := 94) dX10_canBe_90 (by decide) ?_
            have d35 : decide (x = nI (fl_ sg k)) = false := decide_eq_false c35
            have d69 : decide (x = nI (2 * fl_ sg k)) = true := decide_eq_true c69
            have z1 : decide (1 ≤ k) = true := decide_eq_true hk3.1
            have e : cbB sg k dt x = true := by
              unfold cbB
              rw [if_pos hk3.2]
              simp only [d35, c40, c61, d69, z1, Bool.false_or, Bool.or_false, Bool.true_or, Bool.or_true, Bool.and_true, Bool.true_and, Bool.and_false, Bool.false_and, Bool.not_true, Bool.not_false]
            exact mm_zret dX10_canBe_94 rfl (by decide) (⟨rfl, by rw [e]; rfl⟩)
          · refine mm_iload_n dX10_canBe_72 rfl 5 rfl ?_
            refine mn_ifB_eq (tgt := 93) dX10_canBe_73 (by decide) (fun c73 => ?_) (fun c73 => ?_)
            · refine mm_iconst (v := nI 0) dX10_canBe_93 (by decide) ?_
              have d35 : decide (x = nI (fl_ sg k)) = false := decide_eq_false c35
              have d69 : decide (x = nI (2 * fl_ sg k)) = false := decide_eq_false c69
              have z1 : decide (1 ≤ k) = true := decide_eq_true hk3.1
              have e : cbB sg k dt x = false := by
                unfold cbB
                rw [if_pos hk3.2]
                simp only [d35, c40, c61, d69, c73, z1, Bool.false_or, Bool.or_false, Bool.true_or, Bool.or_true, Bool.and_true, Bool.true_and, Bool.and_false, Bool.false_and, Bool.not_true, Bool.not_false]
              exact mm_zret dX10_canBe_94 rfl (by decide) (⟨rfl, by rw [e]; rfl⟩)
            · refine mm_iload dX10_canBe_76 0 rfl ?_
              refine mn_ifB_ne (tgt := 93) dX10_canBe_78 (by decide) (fun c78 => ?_) (fun c78 => ?_)
              · rw [c40] at c78; cases c78
              · refine mm_iload_n dX10_canBe_81 rfl 6 rfl ?_
                refine mm_iconst (v := nI 3) dX10_canBe_82 (by decide) ?_
                refine mm_iload dX10_canBe_83 1 rfl ?_
                refine mn_imul dX10_canBe_85 ?_
                refine mm_icmp_ne (tgt := 93) dX10_canBe_86 (by decide) (fun c86 => ?_) (fun c86 => ?_)
                · refine mm_iconst (v := nI 0) dX10_canBe_93 (by decide) ?_
                  have d35 : decide (x = nI (fl_ sg k)) = false := decide_eq_false c35
                  have d69 : decide (x = nI (2 * fl_ sg k)) = false := decide_eq_false c69
                  have d86 : decide (x = nI (3 * fl_ sg (k + 1))) = false := decide_eq_false c86
                  have z1 : decide (1 ≤ k) = true := decide_eq_true hk3.1
                  have e : cbB sg k dt x = false := by
                    unfold cbB
                    rw [if_pos hk3.2]
                    simp only [d35, c40, c61, d69, c73, c78, d86, z1, Bool.false_or, Bool.or_false, Bool.true_or, Bool.or_true, Bool.and_true, Bool.true_and, Bool.and_false, Bool.false_and, Bool.not_true, Bool.not_false]
                  exact mm_zret dX10_canBe_94 rfl (by decide) (⟨rfl, by rw [e]; rfl⟩)
                · refine mm_iconst (v := nI 1) dX10_canBe_89 (by decide) ?_
                  refine mm_goto (tgt := 94) dX10_canBe_90 (by decide) ?_
                  have d35 : decide (x = nI (fl_ sg k)) = false := decide_eq_false c35
                  have d69 : decide (x = nI (2 * fl_ sg k)) = false := decide_eq_false c69
                  have d86 : decide (x = nI (3 * fl_ sg (k + 1))) = true := decide_eq_true c86
                  have z1 : decide (1 ≤ k) = true := decide_eq_true hk3.1
                  have e : cbB sg k dt x = true := by
                    unfold cbB
                    rw [if_pos hk3.2]
                    simp only [d35, c40, c61, d69, c73, c78, d86, z1, Bool.false_or, Bool.or_false, Bool.true_or, Bool.or_true, Bool.and_true, Bool.true_and, Bool.and_false, Bool.false_and, Bool.not_true, Bool.not_false]
                  exact mm_zret dX10_canBe_94 rfl (by decide) (⟨rfl, by rw [e]; rfl⟩)
      · refine mm_iload_n dX10_canBe_43 rfl 6 rfl ?_
        refine mm_iconst (v := nI 2) dX10_canBe_44 (by decide) ?_
        refine mm_iload dX10_canBe_45 1 rfl ?_
        refine mn_imul dX10_canBe_47 ?_
        refine mm_icmp_eq (tgt := 89) dX10_canBe_48 (by decide) (fun c48 => ?_) (fun c48 => ?_)
        · refine mm_iconst (v := nI 1) dX10_canBe_89 (by decide) ?_
          refine mm_goto (tgt := 94) dX10_canBe_90 (by decide) ?_
          have d35 : decide (x = nI (fl_ sg k)) = false := decide_eq_false c35
          have d48 : decide (x = nI (2 * fl_ sg (k + 1))) = true := decide_eq_true c48
          have z1 : decide (1 ≤ k) = true := decide_eq_true hk3.1
          have e : cbB sg k dt x = true := by
            unfold cbB
            rw [if_pos hk3.2]
            simp only [d35, c40, d48, z1, Bool.false_or, Bool.or_false, Bool.true_or, Bool.or_true, Bool.and_true, Bool.true_and, Bool.and_false, Bool.false_and, Bool.not_true, Bool.not_false]
          exact mm_zret dX10_canBe_94 rfl (by decide) (⟨rfl, by rw [e]; rfl⟩)
        · refine mm_aload_n dX10_canBe_51 rfl 3 rfl ?_
          refine cm_getR (b := 36) dX10_canBe_52 ha zr_X10_14 (by decide) rfl rfl rfl ?_
          refine mm_iload_n dX10_canBe_55 rfl 4 rfl ?_
          refine mm_iconst (v := nI 1) dX10_canBe_56 (by decide) ?_
          refine mn_isub dX10_canBe_57 (by omega) ?_
          refine cm_callVr (As := [.int (nI ((k) - (1)))]) (rest := []) (d2 := 0) dX10_canBe_58 ha (by decide) rfl zz_clX9 zc_X10_65 zs_X9_isPerfect rfl rfl (Nat.le_of_ble_eq_true rfl) (Nat.le_of_ble_eq_true rfl) (by decide) (cv_isPerfect (a := 36) (k := k - 1) ha hva hv1 hv2 (by omega)) ?_
          refine mn_ifB_eq (tgt := 72) dX10_canBe_61 (by decide) (fun c61 => ?_) (fun c61 => ?_)
          · refine mm_iload_n dX10_canBe_72 rfl 5 rfl ?_
            refine mn_ifB_eq (tgt := 93) dX10_canBe_73 (by decide) (fun c73 => ?_) (fun c73 => ?_)
            · refine mm_iconst (v := nI 0) dX10_canBe_93 (by decide) ?_
              have d35 : decide (x = nI (fl_ sg k)) = false := decide_eq_false c35
              have d48 : decide (x = nI (2 * fl_ sg (k + 1))) = false := decide_eq_false c48
              have z1 : decide (1 ≤ k) = true := decide_eq_true hk3.1
              have e : cbB sg k dt x = false := by
                unfold cbB
                rw [if_pos hk3.2]
                simp only [d35, c40, d48, c61, c73, z1, Bool.false_or, Bool.or_false, Bool.true_or, Bool.or_true, Bool.and_true, Bool.true_and, Bool.and_false, Bool.false_and, Bool.not_true, Bool.not_false]
              exact mm_zret dX10_canBe_94 rfl (by decide) (⟨rfl, by rw [e]; rfl⟩)
            · refine mm_iload dX10_canBe_76 0 rfl ?_
              refine mn_ifB_ne (tgt := 93) dX10_canBe_78 (by decide) (fun c78 => ?_) (fun c78 => ?_)
              · refine mm_iconst (v := nI 0) dX10_canBe_93 (by decide) ?_
                have d35 : decide (x = nI (fl_ sg k)) = false := decide_eq_false c35
                have d48 : decide (x = nI (2 * fl_ sg (k + 1))) = false := decide_eq_false c48
                have z1 : decide (1 ≤ k) = true := decide_eq_true hk3.1
                have e : cbB sg k dt x = false := by
                  unfold cbB
                  rw [if_pos hk3.2]
                  simp only [d35, c40, d48, c61, c73, c78, z1, Bool.false_or, Bool.or_false, Bool.true_or, Bool.or_true, Bool.and_true, Bool.true_and, Bool.and_false, Bool.false_and, Bool.not_true, Bool.not_false]
                exact mm_zret dX10_canBe_94 rfl (by decide) (⟨rfl, by rw [e]; rfl⟩)
              · rw [c40] at c78; cases c78
          · refine mm_iload_n dX10_canBe_64 rfl 6 rfl ?_
            refine mm_iconst (v := nI 2) dX10_canBe_65 (by decide) ?_
            refine mm_iload dX10_canBe_66 2 rfl ?_
            refine mn_imul dX10_canBe_68 ?_
            refine mm_icmp_eq (tgt := 89) dX10_canBe_69 (by decide) (fun c69 => ?_) (fun c69 => ?_)
            · refine mm_iconst (v := nI 1) dX10_canBe_89 (by decide) ?_
              refine mm_goto (tgt := 94) dX10_canBe_90 (by decide) ?_
              have d35 : decide (x = nI (fl_ sg k)) = false := decide_eq_false c35
              have d48 : decide (x = nI (2 * fl_ sg (k + 1))) = false := decide_eq_false c48
              have d69 : decide (x = nI (2 * fl_ sg k)) = true := decide_eq_true c69
              have z1 : decide (1 ≤ k) = true := decide_eq_true hk3.1
              have e : cbB sg k dt x = true := by
                unfold cbB
                rw [if_pos hk3.2]
                simp only [d35, c40, d48, c61, d69, z1, Bool.false_or, Bool.or_false, Bool.true_or, Bool.or_true, Bool.and_true, Bool.true_and, Bool.and_false, Bool.false_and, Bool.not_true, Bool.not_false]
              exact mm_zret dX10_canBe_94 rfl (by decide) (⟨rfl, by rw [e]; rfl⟩)
            · refine mm_iload_n dX10_canBe_72 rfl 5 rfl ?_
              refine mn_ifB_eq (tgt := 93) dX10_canBe_73 (by decide) (fun c73 => ?_) (fun c73 => ?_)
              · refine mm_iconst (v := nI 0) dX10_canBe_93 (by decide) ?_
                have d35 : decide (x = nI (fl_ sg k)) = false := decide_eq_false c35
                have d48 : decide (x = nI (2 * fl_ sg (k + 1))) = false := decide_eq_false c48
                have d69 : decide (x = nI (2 * fl_ sg k)) = false := decide_eq_false c69
                have z1 : decide (1 ≤ k) = true := decide_eq_true hk3.1
                have e : cbB sg k dt x = false := by
                  unfold cbB
                  rw [if_pos hk3.2]
                  simp only [d35, c40, d48, c61, d69, c73, z1, Bool.false_or, Bool.or_false, Bool.true_or, Bool.or_true, Bool.and_true, Bool.true_and, Bool.and_false, Bool.false_and, Bool.not_true, Bool.not_false]
                exact mm_zret dX10_canBe_94 rfl (by decide) (⟨rfl, by rw [e]; rfl⟩)
              · refine mm_iload dX10_canBe_76 0 rfl ?_
                refine mn_ifB_ne (tgt := 93) dX10_canBe_78 (by decide) (fun c78 => ?_) (fun c78 => ?_)
                · refine mm_iconst (v := nI 0) dX10_canBe_93 (by decide) ?_
                  have d35 : decide (x = nI (fl_ sg k)) = false := decide_eq_false c35
                  have d48 : decide (x = nI (2 * fl_ sg (k + 1))) = false := decide_eq_false c48
                  have d69 : decide (x = nI (2 * fl_ sg k)) = false := decide_eq_false c69
                  have z1 : decide (1 ≤ k) = true := decide_eq_true hk3.1
                  have e : cbB sg k dt x = false := by
                    unfold cbB
                    rw [if_pos hk3.2]
                    simp only [d35, c40, d48, c61, d69, c73, c78, z1, Bool.false_or, Bool.or_false, Bool.true_or, Bool.or_true, Bool.and_true, Bool.true_and, Bool.and_false, Bool.false_and, Bool.not_true, Bool.not_false]
                  exact mm_zret dX10_canBe_94 rfl (by decide) (⟨rfl, by rw [e]; rfl⟩)
                · rw [c40] at c78; cases c78
  · have p6 : sp_perf sg 6 = false := rfl
    refine mm_aload_n dX10_canBe_0 rfl 0 rfl ?_
    refine cm_getR (b := 36) dX10_canBe_1 ha zr_X10_14 (by decide) rfl rfl rfl ?_
    refine mm_iload_n dX10_canBe_4 rfl 1 rfl ?_
    refine cm_callVr (As := [.int (nI (6))]) (rest := []) (d2 := 1) dX10_canBe_5 ha (by decide) rfl zz_clX9 zc_X10_61 zs_X9_fullOf rfl rfl (Nat.le_of_ble_eq_true rfl) (Nat.le_of_ble_eq_true rfl) (by decide) (cv_fullOf (a := 36) (k := 6) ha hva hv4 (by omega)) ?_
    refine mn_top (u := .int (nI (fl_ sg 6))) (congrArg Value.int (by rw [if_pos (by omega)])) ?_
    refine mm_istore (L' := [(4, .int (nI (fl_ sg 6))), (0, .ref (o + 35)), (1, .int (nI (6))), (2, .int (nI (Bool.toNat (dt)))), (3, .int (x))]) dX10_canBe_8 (by decide) rfl ?_
    refine mm_aload_n dX10_canBe_10 rfl 1 rfl ?_
    refine cm_getR (b := 36) dX10_canBe_11 ha zr_X10_14 (by decide) rfl rfl rfl ?_
    refine mm_iload_n dX10_canBe_14 rfl 2 rfl ?_
    refine mm_iconst (v := nI 1) dX10_canBe_15 (by decide) ?_
    refine mn_iadd dX10_canBe_16 ?_
    refine cm_callVr (As := [.int (nI ((6) + (1)))]) (rest := []) (d2 := 1) dX10_canBe_17 ha (by decide) rfl zz_clX9 zc_X10_61 zs_X9_fullOf rfl rfl (Nat.le_of_ble_eq_true rfl) (Nat.le_of_ble_eq_true rfl) (by decide) (cv_fullOf (a := 36) (k := 6 + 1) ha hva hv4 (by omega)) ?_
    refine mn_top (u := .int (nI (0))) (congrArg Value.int (by rw [if_neg (by omega)])) ?_
    refine mm_istore (L' := [(5, .int (nI (0))), (4, .int (nI (fl_ sg 6))), (0, .ref (o + 35)), (1, .int (nI (6))), (2, .int (nI (Bool.toNat (dt)))), (3, .int (x))]) dX10_canBe_20 (by decide) rfl ?_
    refine mm_aload_n dX10_canBe_22 rfl 2 rfl ?_
    refine cm_getR (b := 36) dX10_canBe_23 ha zr_X10_14 (by decide) rfl rfl rfl ?_
    refine mm_iload_n dX10_canBe_26 rfl 3 rfl ?_
    refine cm_callVr (As := [.int (nI (6))]) (rest := []) (d2 := 0) dX10_canBe_27 ha (by decide) rfl zz_clX9 zc_X10_65 zs_X9_isPerfect rfl rfl (Nat.le_of_ble_eq_true rfl) (Nat.le_of_ble_eq_true rfl) (by decide) (cv_isPerfect (a := 36) (k := 6) ha hva hv1 hv2 (by omega)) ?_
    refine mm_istore (L' := [(6, .int (nI (Bool.toNat (sp_perf sg 6)))), (5, .int (nI (0))), (4, .int (nI (fl_ sg 6))), (0, .ref (o + 35)), (1, .int (nI (6))), (2, .int (nI (Bool.toNat (dt)))), (3, .int (x))]) dX10_canBe_30 (by decide) rfl ?_
    refine mm_iload_n dX10_canBe_32 rfl 6 rfl ?_
    refine mm_iload dX10_canBe_33 2 rfl ?_
    refine mm_icmp_eq (tgt := 89) dX10_canBe_35 (by decide) (fun c35 => ?_) (fun c35 => ?_)
    · refine mm_iconst (v := nI 1) dX10_canBe_89 (by decide) ?_
      refine mm_goto (tgt := 94) dX10_canBe_90 (by decide) ?_
      have d35 : decide (x = nI (fl_ sg 6)) = true := decide_eq_true c35
      have z1 : decide (1 ≤ 6) = true := rfl
      have e : cbB sg 6 dt x = true := by
        unfold cbB
        rw [if_neg (by decide)]
        simp only [d35, z1, p6, Bool.false_or, Bool.or_false, Bool.true_or, Bool.or_true, Bool.and_true, Bool.true_and, Bool.and_false, Bool.false_and, Bool.not_true, Bool.not_false]
      exact mm_zret dX10_canBe_94 rfl (by decide) (⟨rfl, by rw [e]; rfl⟩)
    · refine mm_iload dX10_canBe_38 0 rfl ?_
      refine mn_ifB_eq (tgt := 51) dX10_canBe_40 (by decide) (fun c40 => ?_) (fun c40 => ?_)
      · refine mm_aload_n dX10_canBe_51 rfl 3 rfl ?_
        refine cm_getR (b := 36) dX10_canBe_52 ha zr_X10_14 (by decide) rfl rfl rfl ?_
        refine mm_iload_n dX10_canBe_55 rfl 4 rfl ?_
        refine mm_iconst (v := nI 1) dX10_canBe_56 (by decide) ?_
        refine mn_isub dX10_canBe_57 (by omega) ?_
        refine cm_callVr (As := [.int (nI ((6) - (1)))]) (rest := []) (d2 := 0) dX10_canBe_58 ha (by decide) rfl zz_clX9 zc_X10_65 zs_X9_isPerfect rfl rfl (Nat.le_of_ble_eq_true rfl) (Nat.le_of_ble_eq_true rfl) (by decide) (cv_isPerfect (a := 36) (k := 6 - 1) ha hva hv1 hv2 (by omega)) ?_
        refine mn_ifB_eq (tgt := 72) dX10_canBe_61 (by decide) (fun c61 => ?_) (fun c61 => ?_)
        · refine mm_iload_n dX10_canBe_72 rfl 5 rfl ?_
          refine mn_ifB_eq (tgt := 93) dX10_canBe_73 (by decide) (fun c73 => ?_) (fun c73 => ?_)
          · refine mm_iconst (v := nI 0) dX10_canBe_93 (by decide) ?_
            have d35 : decide (x = nI (fl_ sg 6)) = false := decide_eq_false c35
            have z1 : decide (1 ≤ 6) = true := rfl
            have e : cbB sg 6 dt x = false := by
              unfold cbB
              rw [if_neg (by decide)]
              simp only [d35, c40, c61, c73, z1, p6, Bool.false_or, Bool.or_false, Bool.true_or, Bool.or_true, Bool.and_true, Bool.true_and, Bool.and_false, Bool.false_and, Bool.not_true, Bool.not_false]
            exact mm_zret dX10_canBe_94 rfl (by decide) (⟨rfl, by rw [e]; rfl⟩)
          · refine mm_iload dX10_canBe_76 0 rfl ?_
            refine mn_ifB_ne (tgt := 93) dX10_canBe_78 (by decide) (fun c78 => ?_) (fun c78 => ?_)
            · rw [p6] at c78; cases c78
            · refine mm_iload_n dX10_canBe_81 rfl 6 rfl ?_
              refine mm_iconst (v := nI 3) dX10_canBe_82 (by decide) ?_
              refine mm_iload dX10_canBe_83 1 rfl ?_
              refine mn_imul dX10_canBe_85 ?_
              refine mm_icmp_ne (tgt := 93) dX10_canBe_86 (by decide) (fun c86 => ?_) (fun c86 => ?_)
              · refine mm_iconst (v := nI 0) dX10_canBe_93 (by decide) ?_
                have d35 : decide (x = nI (fl_ sg 6)) = false := decide_eq_false c35
                have d86 : decide (x = nI (3 * 0)) = false := decide_eq_false c86
                have z1 : decide (1 ≤ 6) = true := rfl
                have e : cbB sg 6 dt x = false := by
                  unfold cbB
                  rw [if_neg (by decide)]
                  simp only [d35, c40, c61, c73, c78, d86, z1, p6, Bool.false_or, Bool.or_false, Bool.true_or, Bool.or_true, Bool.and_true, Bool.true_and, Bool.and_false, Bool.false_and, Bool.not_true, Bool.not_false]
                exact mm_zret dX10_canBe_94 rfl (by decide) (⟨rfl, by rw [e]; rfl⟩)
              · refine mm_iconst (v := nI 1) dX10_canBe_89 (by decide) ?_
                refine mm_goto (tgt := 94) dX10_canBe_90 (by decide) ?_
                have d35 : decide (x = nI (fl_ sg 6)) = false := decide_eq_false c35
                have d86 : decide (x = nI (3 * 0)) = true := decide_eq_true c86
                have z1 : decide (1 ≤ 6) = true := rfl
                have e : cbB sg 6 dt x = true := by
                  unfold cbB
                  rw [if_neg (by decide)]
                  simp only [d35, c40, c61, c73, c78, d86, z1, p6, Bool.false_or, Bool.or_false, Bool.true_or, Bool.or_true, Bool.and_true, Bool.true_and, Bool.and_false, Bool.false_and, Bool.not_true, Bool.not_false]
                exact mm_zret dX10_canBe_94 rfl (by decide) (⟨rfl, by rw [e]; rfl⟩)
        · refine mm_iload_n dX10_canBe_64 rfl 6 rfl ?_
          refine mm_iconst (v := nI 2) dX10_canBe_65 (by decide) ?_
          refine mm_iload dX10_canBe_66 2 rfl ?_
          refine mn_imul dX10_canBe_68 ?_
          refine mm_icmp_eq (tgt := 89) dX10_canBe_69 (by decide) (fun c69 => ?_) (fun c69 => ?_)
          · refine mm_iconst (v := nI 1) dX10_canBe_89 (by decide) ?_
            refine mm_goto (tgt := 94) dX10_canBe_90 (by decide) ?_
            have d35 : decide (x = nI (fl_ sg 6)) = false := decide_eq_false c35
            have d69 : decide (x = nI (2 * fl_ sg 6)) = true := decide_eq_true c69
            have z1 : decide (1 ≤ 6) = true := rfl
            have e : cbB sg 6 dt x = true := by
              unfold cbB
              rw [if_neg (by decide)]
              simp only [d35, c40, c61, d69, z1, p6, Bool.false_or, Bool.or_false, Bool.true_or, Bool.or_true, Bool.and_true, Bool.true_and, Bool.and_false, Bool.false_and, Bool.not_true, Bool.not_false]
            exact mm_zret dX10_canBe_94 rfl (by decide) (⟨rfl, by rw [e]; rfl⟩)
          · refine mm_iload_n dX10_canBe_72 rfl 5 rfl ?_
            refine mn_ifB_eq (tgt := 93) dX10_canBe_73 (by decide) (fun c73 => ?_) (fun c73 => ?_)
            · refine mm_iconst (v := nI 0) dX10_canBe_93 (by decide) ?_
              have d35 : decide (x = nI (fl_ sg 6)) = false := decide_eq_false c35
              have d69 : decide (x = nI (2 * fl_ sg 6)) = false := decide_eq_false c69
              have z1 : decide (1 ≤ 6) = true := rfl
              have e : cbB sg 6 dt x = false := by
                unfold cbB
                rw [if_neg (by decide)]
                simp only [d35, c40, c61, d69, c73, z1, p6, Bool.false_or, Bool.or_false, Bool.true_or, Bool.or_true, Bool.and_true, Bool.true_and, Bool.and_false, Bool.false_and, Bool.not_true, Bool.not_false]
              exact mm_zret dX10_canBe_94 rfl (by decide) (⟨rfl, by rw [e]; rfl⟩)
            · refine mm_iload dX10_canBe_76 0 rfl ?_
              refine mn_ifB_ne (tgt := 93) dX10_canBe_78 (by decide) (fun c78 => ?_) (fun c78 => ?_)
              · rw [p6] at c78; cases c78
              · refine mm_iload_n dX10_canBe_81 rfl 6 rfl ?_
                refine mm_iconst (v := nI 3) dX10_canBe_82 (by decide) ?_
                refine mm_iload dX10_canBe_83 1 rfl ?_
                refine mn_imul dX10_canBe_85 ?_
                refine mm_icmp_ne (tgt := 93) dX10_canBe_86 (by decide) (fun c86 => ?_) (fun c86 => ?_)
                · refine mm_iconst (v := nI 0) dX10_canBe_93 (by decide) ?_
                  have d35 : decide (x = nI (fl_ sg 6)) = false := decide_eq_false c35
                  have d69 : decide (x = nI (2 * fl_ sg 6)) = false := decide_eq_false c69
                  have d86 : decide (x = nI (3 * 0)) = false := decide_eq_false c86
                  have z1 : decide (1 ≤ 6) = true := rfl
                  have e : cbB sg 6 dt x = false := by
                    unfold cbB
                    rw [if_neg (by decide)]
                    simp only [d35, c40, c61, d69, c73, c78, d86, z1, p6, Bool.false_or, Bool.or_false, Bool.true_or, Bool.or_true, Bool.and_true, Bool.true_and, Bool.and_false, Bool.false_and, Bool.not_true, Bool.not_false]
                  exact mm_zret dX10_canBe_94 rfl (by decide) (⟨rfl, by rw [e]; rfl⟩)
                · refine mm_iconst (v := nI 1) dX10_canBe_89 (by decide) ?_
                  refine mm_goto (tgt := 94) dX10_canBe_90 (by decide) ?_
                  have d35 : decide (x = nI (fl_ sg 6)) = false := decide_eq_false c35
                  have d69 : decide (x = nI (2 * fl_ sg 6)) = false := decide_eq_false c69
                  have d86 : decide (x = nI (3 * 0)) = true := decide_eq_true c86
                  have z1 : decide (1 ≤ 6) = true := rfl
                  have e : cbB sg 6 dt x = true := by
                    unfold cbB
                    rw [if_neg (by decide)]
                    simp only [d35, c40, c61, d69, c73, c78, d86, z1, p6, Bool.false_or, Bool.or_false, Bool.true_or, Bool.or_true, Bool.and_true, Bool.true_and, Bool.and_false, Bool.false_and, Bool.not_true, Bool.not_false]
                  exact mm_zret dX10_canBe_94 rfl (by decide) (⟨rfl, by rw [e]; rfl⟩)
      · rw [p6] at c40; cases c40
