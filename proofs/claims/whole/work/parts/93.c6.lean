/-! voices: signs, rows -/
set_option maxRecDepth 100000 in
set_option maxHeartbeats 4000000 in
theorem cv_isPerfect {l : Launch} {D : va_G} {aa : Nat → ClassId} {b0 : Nat} {h : mm_H} {o : Nat} {X : Nat → Nat → Int32} {Y : Nat → Nat → Int64} {rl : Option Nat} {a sg k : Nat} (ha : cm_at o X Y rl h) (hva : vA a) (hsg : X a 3 = nI sg) (h16 : sg < 16) (hk : k < 2 ^ 31) : mm_V (zz_K l D aa b0) 0 yX9_isPerfect cX9_isPerfect 2 (some .boolean) 0 [(0, .ref (o + a)), (1, .int (nI (k)))] [] h 0 0 (fun rv h' => h' = h ∧ rv = some (.int (nI (Bool.toNat (sp_perf sg k))))) := by
  refine mm_iload_n dX9_isPerfect_0 rfl 1 rfl ?_
  refine mn_if_lt (tgt := 25) dX9_isPerfect_1 (by decide) (by first | omega | exact pf_b) ?_
  refine mm_iload_n dX9_isPerfect_4 rfl 1 rfl ?_
  refine mm_iconst (v := nI 4) dX9_isPerfect_5 (by decide) ?_
  refine mn_icmp_ge (tgt := 25) dX9_isPerfect_6 (by decide) (by first | omega | exact pf_b) (by first | omega | exact pf_b) (fun c6 => ?_) (fun c6 => ?_)
  · refine mm_iconst (v := nI 0) dX9_isPerfect_25 (by decide) ?_
    exact mm_zret dX9_isPerfect_26 rfl (by decide) (⟨rfl, by first | (rw [pf_4 (by omega)]; rfl) | (rw [pf_0 c18]; rfl) | (rw [pf_1 (by omega) (Classical.not_not.mp c18)]; rfl) | (rw [pf_1 (by omega) c18]; rfl)⟩)
  · refine mm_aload_n dX9_isPerfect_9 rfl 0 rfl ?_
    refine cm_getI dX9_isPerfect_10 ha zr_X9_29 (vA_lt hva 0 (by decide)) (vA_0 hva) rfl ?_
    refine mn_top (u := .int (nI (sg))) (congrArg Value.int ((hsg))) ?_
    refine mm_iload_n dX9_isPerfect_13 rfl 1 rfl ?_
    refine mn_ishr dX9_isPerfect_14 (by first | omega | exact pf_b) (by first | omega | exact pf_b) ?_
    refine mm_iconst (v := nI 1) dX9_isPerfect_15 (by decide) ?_
    refine mn_iand dX9_isPerfect_16 ?_
    refine mm_iconst (v := nI 1) dX9_isPerfect_17 (by decide) ?_
    refine mn_icmp_ne (tgt := 25) dX9_isPerfect_18 (by decide) (by first | omega | exact pf_b) (by first | omega | exact pf_b) (fun c18 => ?_) (fun c18 => ?_)
    · refine mm_iconst (v := nI 0) dX9_isPerfect_25 (by decide) ?_
      exact mm_zret dX9_isPerfect_26 rfl (by decide) (⟨rfl, by first | (rw [pf_4 (by omega)]; rfl) | (rw [pf_0 c18]; rfl) | (rw [pf_1 (by omega) (Classical.not_not.mp c18)]; rfl) | (rw [pf_1 (by omega) c18]; rfl)⟩)
    · refine mm_iconst (v := nI 1) dX9_isPerfect_21 (by decide) ?_
      refine mm_goto (tgt := 26) dX9_isPerfect_22 (by decide) ?_
      exact mm_zret dX9_isPerfect_26 rfl (by decide) (⟨rfl, by first | (rw [pf_4 (by omega)]; rfl) | (rw [pf_0 c18]; rfl) | (rw [pf_1 (by omega) (Classical.not_not.mp c18)]; rfl) | (rw [pf_1 (by omega) c18]; rfl)⟩)
set_option maxRecDepth 100000 in
set_option maxHeartbeats 4000000 in
theorem cv_fullOf {l : Launch} {D : va_G} {aa : Nat → ClassId} {b0 : Nat} {h : mm_H} {o : Nat} {X : Nat → Nat → Int32} {Y : Nat → Nat → Int64} {rl : Option Nat} {a sg k : Nat} (ha : cm_at o X Y rl h) (hva : vA a) (hfu : ∀ k, k < 7 → X (a + 1) k = nI (fl_ sg k)) (hk : k < 2 ^ 31) : mm_V (zz_K l D aa b0) 1 yX9_fullOf cX9_fullOf 2 (some .int) 0 [(0, .ref (o + a)), (1, .int (nI (k)))] [] h 0 0 (fun rv h' => h' = h ∧ rv = some (.int (nI (if k < 7 then fl_ sg k else 0)))) := by
  refine mm_iload_n dX9_fullOf_0 rfl 1 rfl ?_
  refine cm_callSN (As := [.int (nI (k))]) (rest := []) (d2 := 0) dX9_fullOf_1 zc_X9_40 rfl rfl (Nat.le_of_ble_eq_true rfl) (Nat.le_of_ble_eq_true rfl) (by decide) (ck_isKind hk) ?_
  refine mn_ifB_eq (tgt := 16) dX9_fullOf_4 (by decide) (fun c4 => ?_) (fun c4 => ?_)
  · refine mm_iconst (v := nI 0) dX9_fullOf_16 (by decide) ?_
    exact mm_iret dX9_fullOf_17 rfl (⟨rfl, by first | (rw [if_pos (of_decide_eq_true c4)]; done) | (rw [if_neg (of_decide_eq_false c4)]; done)⟩)
  · refine mm_aload_n dX9_fullOf_7 rfl 0 rfl ?_
    refine cm_getR (b := a + 1) dX9_fullOf_8 ha zr_X9_9 (vA_lt hva 0 (by decide)) (vA_0 hva) rfl rfl ?_
    refine mm_iload_n dX9_fullOf_11 rfl 1 rfl ?_
    refine cm_iald (i := k) dX9_fullOf_12 ha (vA_lt hva 1 (by decide)) (vA_1 hva) (by first | omega | exact of_decide_eq_true c4) (by decide) ?_
    refine mn_top (u := .int (nI (fl_ sg (k)))) (congrArg Value.int (hfu (k) (of_decide_eq_true c4))) ?_
    refine mm_goto (tgt := 17) dX9_fullOf_13 (by decide) ?_
    exact mm_iret dX9_fullOf_17 rfl (⟨rfl, by first | (rw [if_pos (of_decide_eq_true c4)]; done) | (rw [if_neg (of_decide_eq_false c4)]; done)⟩)
set_option maxRecDepth 100000 in
set_option maxHeartbeats 4000000 in
theorem cr_add {l : Launch} {D : va_G} {aa : Nat → ClassId} {b0 : Nat} {h : mm_H} {o : Nat} {X : Nat → Nat → Int32} {Y : Nat → Nat → Int64} {rl : Option Nat} {r sz : Nat} {s k p : Int32} {c : Bool} (ha : cm_at o X Y rl h) (hra : rA r) (hsz : X r 6 = nI sz) (hs : sz < 24) : mm_V (zz_K l D aa b0) 0 yX6_add cX6_add 5 none 0 [(0, .ref (o + r)), (1, .int (s)), (2, .int (k)), (3, .int (p)), (4, .int (nI (Bool.toNat (c))))] [] h 0 0 (fun rv h' => rv = none ∧ cm_at o (xu (xu (xu (xu (xu (xu (xu X (r + 1) sz s) (r + 2) sz k) (r + 3) sz p) (r + 4) sz (nI (Bool.toNat c))) (r + 5) sz (X r 7)) (r + 6) sz (X r 8)) r 6 (nI (sz + 1))) Y rl h' ∧ cm_fr o h h') := by
  have hf := cm_fr.rf (o := o) (h := h)
  refine mm_aload_n dX6_add_0 rfl 0 rfl ?_
  refine cm_getI dX6_add_1 ha zr_X6_38 (rA_lt hra 0 (by decide)) (rA_0 hra) rfl ?_
  refine mn_top (u := .int (nI (sz))) (congrArg Value.int ((hsz))) ?_
  refine mn_if_lt (tgt := 16) dX6_add_4 (by decide) (by omega) ?_
  refine mm_aload_n dX6_add_7 rfl 0 rfl ?_
  refine cm_getI dX6_add_8 ha zr_X6_38 (rA_lt hra 0 (by decide)) (rA_0 hra) rfl ?_
  refine mn_top (u := .int (nI (sz))) (congrArg Value.int ((hsz))) ?_
  refine mm_bipush (v := nI 24) dX6_add_11 (by decide) ?_
  refine mn_icmp_lt (tgt := 17) dX6_add_13 (by decide) (by omega) (by omega) (fun c13 => ?_) (fun c13 => ?_)
  · refine mm_aload_n dX6_add_17 rfl 0 rfl ?_
    refine cm_getR (b := r + 1) dX6_add_18 ha zr_X6_9 (rA_lt hra 0 (by decide)) (rA_0 hra) rfl rfl ?_
    refine mm_aload_n dX6_add_21 rfl 0 rfl ?_
    refine cm_getI dX6_add_22 ha zr_X6_38 (rA_lt hra 0 (by decide)) (rA_0 hra) rfl ?_
    refine mn_top (u := .int (nI (sz))) (congrArg Value.int ((hsz))) ?_
    refine mm_iload_n dX6_add_25 rfl 1 rfl ?_
    refine cm_iast (i := sz) dX6_add_26 ha hf (rA_lt hra 1 (by decide)) (rA_1 hra) (by omega) (by decide) (fun h ha hf => ?_)
    refine mm_aload_n dX6_add_27 rfl 0 rfl ?_
    refine cm_getR (b := r + 2) dX6_add_28 ha zr_X6_15 (rA_lt hra 0 (by decide)) (rA_0 hra) rfl rfl ?_
    refine mm_aload_n dX6_add_31 rfl 0 rfl ?_
    refine cm_getI dX6_add_32 ha zr_X6_38 (rA_lt hra 0 (by decide)) (rA_0 hra) rfl ?_
    refine mn_top (u := .int (nI (sz))) (congrArg Value.int (Eq.trans (xu_a (by omega)) ((hsz)))) ?_
    refine mm_iload_n dX6_add_35 rfl 2 rfl ?_
    refine cm_iast (i := sz) dX6_add_36 ha hf (rA_lt hra 2 (by decide)) (rA_2 hra) (by omega) (by decide) (fun h ha hf => ?_)
    refine mm_aload_n dX6_add_37 rfl 0 rfl ?_
    refine cm_getR (b := r + 3) dX6_add_38 ha zr_X6_18 (rA_lt hra 0 (by decide)) (rA_0 hra) rfl rfl ?_
    refine mm_aload_n dX6_add_41 rfl 0 rfl ?_
    refine cm_getI dX6_add_42 ha zr_X6_38 (rA_lt hra 0 (by decide)) (rA_0 hra) rfl ?_
    refine mn_top (u := .int (nI (sz))) (congrArg Value.int (Eq.trans (xu_a (by omega)) (Eq.trans (xu_a (by omega)) ((hsz))))) ?_
    refine mm_iload_n dX6_add_45 rfl 3 rfl ?_
    refine cm_iast (i := sz) dX6_add_46 ha hf (rA_lt hra 3 (by decide)) (rA_3 hra) (by omega) (by decide) (fun h ha hf => ?_)
    refine mm_aload_n dX6_add_47 rfl 0 rfl ?_
    refine cm_getR (b := r + 4) dX6_add_48 ha zr_X6_21 (rA_lt hra 0 (by decide)) (rA_0 hra) rfl rfl ?_
    refine mm_aload_n dX6_add_51 rfl 0 rfl ?_
    refine cm_getI dX6_add_52 ha zr_X6_38 (rA_lt hra 0 (by decide)) (rA_0 hra) rfl ?_
    refine mn_top (u := .int (nI (sz))) (congrArg Value.int (Eq.trans (xu_a (by omega)) (Eq.trans (xu_a (by omega)) (Eq.trans (xu_a (by omega)) ((hsz)))))) ?_
    refine mm_iload dX6_add_55 4 rfl ?_
    refine cm_zast (i := sz) dX6_add_57 ha hf (rA_lt hra 4 (by decide)) (rA_4 hra) (by omega) (by decide) (mn_vz _) (fun h ha hf => ?_)
    refine mm_aload_n dX6_add_58 rfl 0 rfl ?_
    refine cm_getR (b := r + 5) dX6_add_59 ha zr_X6_25 (rA_lt hra 0 (by decide)) (rA_0 hra) rfl rfl ?_
    refine mm_aload_n dX6_add_62 rfl 0 rfl ?_
    refine cm_getI dX6_add_63 ha zr_X6_38 (rA_lt hra 0 (by decide)) (rA_0 hra) rfl ?_
    refine mn_top (u := .int (nI (sz))) (congrArg Value.int (Eq.trans (xu_a (by omega)) (Eq.trans (xu_a (by omega)) (Eq.trans (xu_a (by omega)) (Eq.trans (xu_a (by omega)) ((hsz))))))) ?_
    refine mm_aload_n dX6_add_66 rfl 0 rfl ?_
    refine cm_getI dX6_add_67 ha zr_X6_31 (rA_lt hra 0 (by decide)) (rA_0 hra) rfl ?_
    refine mn_top (u := .int (X r 7)) (congrArg Value.int (Eq.trans (xu_a (by omega)) (Eq.trans (xu_a (by omega)) (Eq.trans (xu_a (by omega)) (Eq.trans (xu_a (by omega)) ((rfl))))))) ?_
    refine cm_iast (i := sz) dX6_add_70 ha hf (rA_lt hra 5 (by decide)) (rA_5 hra) (by omega) (by decide) (fun h ha hf => ?_)
    refine mm_aload_n dX6_add_71 rfl 0 rfl ?_
    refine cm_getR (b := r + 6) dX6_add_72 ha zr_X6_28 (rA_lt hra 0 (by decide)) (rA_0 hra) rfl rfl ?_
    refine mm_aload_n dX6_add_75 rfl 0 rfl ?_
    refine cm_getI dX6_add_76 ha zr_X6_38 (rA_lt hra 0 (by decide)) (rA_0 hra) rfl ?_
    refine mn_top (u := .int (nI (sz))) (congrArg Value.int (Eq.trans (xu_a (by omega)) (Eq.trans (xu_a (by omega)) (Eq.trans (xu_a (by omega)) (Eq.trans (xu_a (by omega)) (Eq.trans (xu_a (by omega)) ((hsz)))))))) ?_
    refine mm_aload_n dX6_add_79 rfl 0 rfl ?_
    refine cm_getI dX6_add_80 ha zr_X6_35 (rA_lt hra 0 (by decide)) (rA_0 hra) rfl ?_
    refine mn_top (u := .int (X r 8)) (congrArg Value.int (Eq.trans (xu_a (by omega)) (Eq.trans (xu_a (by omega)) (Eq.trans (xu_a (by omega)) (Eq.trans (xu_a (by omega)) (Eq.trans (xu_a (by omega)) ((rfl)))))))) ?_
    refine cm_iast (i := sz) dX6_add_83 ha hf (rA_lt hra 6 (by decide)) (rA_6 hra) (by omega) (by decide) (fun h ha hf => ?_)
    refine mm_aload_n dX6_add_84 rfl 0 rfl ?_
    refine mm_dup dX6_add_85 rfl ?_
    refine cm_getI dX6_add_86 ha zr_X6_38 (rA_lt hra 0 (by decide)) (rA_0 hra) rfl ?_
    refine mn_top (u := .int (nI (sz))) (congrArg Value.int (Eq.trans (xu_a (by omega)) (Eq.trans (xu_a (by omega)) (Eq.trans (xu_a (by omega)) (Eq.trans (xu_a (by omega)) (Eq.trans (xu_a (by omega)) (Eq.trans (xu_a (by omega)) ((hsz))))))))) ?_
    refine mm_iconst (v := nI 1) dX6_add_89 (by decide) ?_
    refine mn_iadd dX6_add_90 ?_
    refine cm_putI dX6_add_91 ha hf zp_X6_38 (rA_lt hra 0 (by decide)) (rA_0 hra) rfl rfl rfl (fun h ha hf => ?_)
    exact mm_vret dX6_add_94 rfl (⟨rfl, ha, hf⟩)
  · omega
set_option maxRecDepth 100000 in
set_option maxHeartbeats 4000000 in
theorem cv_append {l : Launch} {D : va_G} {aa : Nat → ClassId} {b0 : Nat} {h : mm_H} {o : Nat} {X : Nat → Nat → Int32} {Y : Nat → Nat → Int64} {rl : Option Nat} {a sz : Nat} {s k p : Int32} {c : Bool} (ha : cm_at o X Y rl h) (hva : vA a) (hsz : X (a + 3) 6 = nI sz) (hs : sz < 24) : mm_V (zz_K l D aa b0) 1 yX9_append cX9_append 5 (some .int) 0 [(0, .ref (o + a)), (1, .int (s)), (2, .int (k)), (3, .int (p)), (4, .int (nI (Bool.toNat (c))))] [] h 0 0 (fun rv h' => rv = some (.int (nI sz)) ∧ cm_at o (xu (xu (xu (xu (xu (xu (xu (xu (xu X (a + 3 + 1) sz s) (a + 3 + 2) sz k) (a + 3 + 3) sz p) (a + 3 + 4) sz (nI (Bool.toNat c))) (a + 3 + 5) sz (X (a + 3) 7)) (a + 3 + 6) sz (X (a + 3) 8)) (a + 3) 6 (nI (sz + 1))) a 8 (nI 1)) a 7 (nI 0)) Y rl h' ∧ cm_fr o h h') := by
  have hf := cm_fr.rf (o := o) (h := h)
  refine mm_aload_n dX9_append_0 rfl 0 rfl ?_
  refine cm_getR (b := a + 3) dX9_append_1 ha zr_X9_21 (vA_lt hva 0 (by decide)) (vA_0 hva) rfl rfl ?_
  refine mm_iconst (v := nI 1) dX9_append_4 (by decide) ?_
  refine cm_callVr (As := [.int (nI (1))]) (rest := []) (d2 := 0) dX9_append_5 ha (vA_lt hva 3 (by decide)) (vA_3 hva) zz_clX6 zc_X9_43 zs_X6_hasRoomFor rfl rfl (Nat.le_of_ble_eq_true rfl) (Nat.le_of_ble_eq_true rfl) (by decide) (cr_hasRoomFor ha (vr_A hva) hsz (by omega) (by omega)) ?_
  refine mn_ifB_ne (tgt := 14) dX9_append_8 (by decide) (fun c8 => ?_) (fun c8 => ?_)
  · refine mm_aload_n dX9_append_14 rfl 0 rfl ?_
    refine cm_getR (b := a + 3) dX9_append_15 ha zr_X9_21 (vA_lt hva 0 (by decide)) (vA_0 hva) rfl rfl ?_
    refine mm_iload_n dX9_append_18 rfl 1 rfl ?_
    refine mm_iload_n dX9_append_19 rfl 2 rfl ?_
    refine mm_iload_n dX9_append_20 rfl 3 rfl ?_
    refine mm_iload dX9_append_21 4 rfl ?_
    refine cm_callV (As := [.int (s), .int (k), .int (p), .int (nI (Bool.toNat (c)))]) (rest := []) (d2 := 0) dX9_append_23 ha (vA_lt hva 3 (by decide)) (vA_3 hva) zz_clX6 zc_X9_46 zs_X6_add rfl rfl (Nat.le_of_ble_eq_true rfl) (Nat.le_of_ble_eq_true rfl) (by decide) (cr_add ha (vr_A hva) hsz hs) (fun r h1 hq => ?_)
    obtain ⟨rfl, ha, hf'⟩ := hq
    have hf := hf.tr hf'
    refine mm_aload_n dX9_append_26 rfl 0 rfl ?_
    refine cm_callV (As := []) (rest := []) (d2 := 0) dX9_append_27 ha (vA_lt hva 0 (by decide)) (vA_0 hva) zz_clX9 zc_X9_50 zs_X9_change rfl rfl (Nat.le_of_ble_eq_true rfl) (Nat.le_of_ble_eq_true rfl) (by decide) (cv_change ha hva) (fun r h1 hq => ?_)
    obtain ⟨rfl, ha, hf'⟩ := hq
    have hf := hf.tr hf'
    refine mm_aload_n dX9_append_30 rfl 0 rfl ?_
    refine cm_getR (b := a + 3) dX9_append_31 ha zr_X9_21 (vA_lt hva 0 (by decide)) (vA_0 hva) rfl rfl ?_
    refine cm_getI dX9_append_34 ha zr_X9_53 (vA_lt hva 3 (by decide)) (vA_3 hva) rfl ?_
    refine mn_top (u := .int (nI (sz + 1))) (congrArg Value.int (((xu_a (by omega)).trans ((xu_a (by omega)).trans xu_s)))) ?_
    refine mm_iconst (v := nI 1) dX9_append_37 (by decide) ?_
    refine mn_isub dX9_append_38 (by omega) ?_
    exact mm_iret dX9_append_39 rfl (⟨rfl, ha, hf⟩)
  · exact absurd (of_decide_eq_false c8) (by omega)
set_option maxRecDepth 100000 in
set_option maxHeartbeats 4000000 in
theorem cv_appendF {l : Launch} {D : va_G} {aa : Nat → ClassId} {b0 : Nat} {h : mm_H} {o : Nat} {X : Nat → Nat → Int32} {Y : Nat → Nat → Int64} {rl : Option Nat} {a sz : Nat} {s k p : Int32} {c : Bool} (ha : cm_at o X Y rl h) (hva : vA a) (hsz : X (a + 3) 6 = nI sz) (hs : sz = 24) : mm_V (zz_K l D aa b0) 1 yX9_append cX9_append 5 (some .int) 0 [(0, .ref (o + a)), (1, .int (s)), (2, .int (k)), (3, .int (p)), (4, .int (nI (Bool.toNat (c))))] [] h 0 0 (fun rv h' => rv = some (.int (-3)) ∧ cm_at o (X) Y rl h' ∧ cm_fr o h h') := by
  have hf := cm_fr.rf (o := o) (h := h)
  refine mm_aload_n dX9_append_0 rfl 0 rfl ?_
  refine cm_getR (b := a + 3) dX9_append_1 ha zr_X9_21 (vA_lt hva 0 (by decide)) (vA_0 hva) rfl rfl ?_
  refine mm_iconst (v := nI 1) dX9_append_4 (by decide) ?_
  refine cm_callVr (As := [.int (nI (1))]) (rest := []) (d2 := 0) dX9_append_5 ha (vA_lt hva 3 (by decide)) (vA_3 hva) zz_clX6 zc_X9_43 zs_X6_hasRoomFor rfl rfl (Nat.le_of_ble_eq_true rfl) (Nat.le_of_ble_eq_true rfl) (by decide) (cr_hasRoomFor ha (vr_A hva) hsz (by omega) (by omega)) ?_
  refine mn_ifB_ne (tgt := 14) dX9_append_8 (by decide) (fun c8 => ?_) (fun c8 => ?_)
  · exact absurd (of_decide_eq_true c8) (by omega)
  · refine mm_bipush (v := (-3)) dX9_append_11 (by decide) ?_
    exact mm_iret dX9_append_13 rfl (⟨rfl, ha, hf⟩)
set_option maxRecDepth 100000 in
set_option maxHeartbeats 4000000 in
theorem cv_removeLast {l : Launch} {D : va_G} {aa : Nat → ClassId} {b0 : Nat} {h : mm_H} {o : Nat} {X : Nat → Nat → Int32} {Y : Nat → Nat → Int64} {rl : Option Nat} {a sz : Nat} (ha : cm_at o X Y rl h) (hva : vA a) (hsz : X (a + 3) 6 = nI (sz + 1)) (hs : sz < 24) : mm_V (zz_K l D aa b0) 1 yX9_removeLast cX9_removeLast 1 none 0 [(0, .ref (o + a))] [] h 0 0 (fun rv h' => rv = none ∧ cm_at o (xu (xu (xu X (a + 3) 6 (nI sz)) a 8 (nI 1)) a 7 (nI 0)) Y rl h' ∧ cm_fr o h h') := by
  have hf := cm_fr.rf (o := o) (h := h)
  refine mm_aload_n dX9_removeLast_0 rfl 0 rfl ?_
  refine cm_getR (b := a + 3) dX9_removeLast_1 ha zr_X9_21 (vA_lt hva 0 (by decide)) (vA_0 hva) rfl rfl ?_
  refine cm_getI dX9_removeLast_4 ha zr_X9_53 (vA_lt hva 3 (by decide)) (vA_3 hva) rfl ?_
  refine mn_top (u := .int (nI (sz + 1))) (congrArg Value.int ((hsz))) ?_
  refine mn_if_le (tgt := 27) dX9_removeLast_7 (by decide) (by omega) (fun c7 => ?_) (fun c7 => ?_)
  · omega
  · refine mm_aload_n dX9_removeLast_10 rfl 0 rfl ?_
    refine cm_getR (b := a + 3) dX9_removeLast_11 ha zr_X9_21 (vA_lt hva 0 (by decide)) (vA_0 hva) rfl rfl ?_
    refine mm_dup dX9_removeLast_14 rfl ?_
    refine cm_getI dX9_removeLast_15 ha zr_X9_53 (vA_lt hva 3 (by decide)) (vA_3 hva) rfl ?_
    refine mn_top (u := .int (nI (sz + 1))) (congrArg Value.int ((hsz))) ?_
    refine mm_iconst (v := nI 1) dX9_removeLast_18 (by decide) ?_
    refine mn_isub dX9_removeLast_19 (by omega) ?_
    refine cm_putI dX9_removeLast_20 ha hf zp_X9_53 (vA_lt hva 3 (by decide)) (vA_3 hva) rfl rfl rfl (fun h ha hf => ?_)
    refine mm_aload_n dX9_removeLast_23 rfl 0 rfl ?_
    refine cm_callV (As := []) (rest := []) (d2 := 0) dX9_removeLast_24 ha (vA_lt hva 0 (by decide)) (vA_0 hva) zz_clX9 zc_X9_50 zs_X9_change rfl rfl (Nat.le_of_ble_eq_true rfl) (Nat.le_of_ble_eq_true rfl) (by decide) (cv_change ha hva) (fun r h1 hq => ?_)
    obtain ⟨rfl, ha, hf'⟩ := hq
    have hf := hf.tr hf'
    exact mm_vret dX9_removeLast_27 rfl (⟨rfl, ha, hf⟩)
set_option maxRecDepth 100000 in
set_option maxHeartbeats 4000000 in
theorem cv_holdPicked {l : Launch} {D : va_G} {aa : Nat → ClassId} {b0 : Nat} {h : mm_H} {o : Nat} {X : Nat → Nat → Int32} {Y : Nat → Nat → Int64} {rl : Option Nat} {a : Nat} {v : Int32} (ha : cm_at o X Y rl h) (hva : vA a) : mm_V (zz_K l D aa b0) 1 yX9_holdPicked cX9_holdPicked 4 none 0 [(0, .ref (o + a)), (1, .int (v)), (2, .ref (o + 25))] [] h 0 0 (fun rv h' => rv = none ∧ cm_at o (fcp (xu X a 7 v) (a + 2) 27 24) Y rl h' ∧ cm_fr o h h') := by
  have hge := vA_ge hva
  have lp : ∀ (m i : Nat) (h1 : mm_H), i + m = 24 → cm_at o (fcp (xu X a 7 v) (a + 2) 27 i) Y rl h1 → cm_fr o h h1 → mm_V (zz_K l D aa b0) 1 yX9_holdPicked cX9_holdPicked 4 none 7 [(3, .int (nI (i))), (0, .ref (o + a)), (1, .int (v)), (2, .ref (o + 25))] [] h1 0 0 (fun rv h' => rv = none ∧ cm_at o (fcp (xu X a 7 v) (a + 2) 27 24) Y rl h' ∧ cm_fr o h h') := by
    intro m
    induction m with
    | zero =>
      intro i h1 hn ha hf
      refine mm_iload_n dX9_holdPicked_7 rfl 0 rfl ?_
      refine mm_bipush (v := nI 24) dX9_holdPicked_8 (by decide) ?_
      refine mn_icmp_ge (tgt := 30) dX9_holdPicked_10 (by decide) (by omega) (by omega) (fun c10 => ?_) (fun c10 => ?_)
      · have e : i = 24 := by omega
        rw [e] at ha
        exact mm_vret dX9_holdPicked_30 rfl (⟨rfl, ha, hf⟩)
      · omega
    | succ m ih =>
      intro i h1 hn ha hf
      refine mm_iload_n dX9_holdPicked_7 rfl 0 rfl ?_
      refine mm_bipush (v := nI 24) dX9_holdPicked_8 (by decide) ?_
      refine mn_icmp_ge (tgt := 30) dX9_holdPicked_10 (by decide) (by omega) (by omega) (fun c10 => ?_) (fun c10 => ?_)
      · omega
      · refine mm_aload_n dX9_holdPicked_13 rfl 1 rfl ?_
        refine cm_getR (b := a + 2) dX9_holdPicked_14 ha zr_X9_15 (vA_lt hva 0 (by decide)) (vA_0 hva) rfl rfl ?_
        refine mm_iload_n dX9_holdPicked_17 rfl 0 rfl ?_
        refine mm_aload_n dX9_holdPicked_18 rfl 3 rfl ?_
        refine mm_iload_n dX9_holdPicked_19 rfl 0 rfl ?_
        refine cm_callVr (As := [.int (nI (i))]) (rest := [.int (nI (i)), .ref (o + (a + 2))]) (d2 := 0) dX9_holdPicked_20 ha (by decide) rfl zz_clX1 zc_X9_65 zs_X1_ticksAt rfl rfl (Nat.le_of_ble_eq_true rfl) (Nat.le_of_ble_eq_true rfl) (by decide) (cd_ticksAt ha (by omega)) ?_
        refine mn_top (u := .int ((xu X a 7 v) 27 i)) (congrArg Value.int (by rw [if_pos (by omega)]; exact fcp_a (by omega))) ?_
        refine cm_iast (i := i) dX9_holdPicked_23 ha hf (vA_lt hva 2 (by decide)) (vA_2 hva) (by omega) (by decide) (fun h2 ha hf => ?_)
        rw [fcp_s] at ha
        refine mn_iinc (m := 1) (L' := [(3, .int (nI (i + 1))), (0, .ref (o + a)), (1, .int (v)), (2, .ref (o + 25))]) dX9_holdPicked_24 (by decide) 0 rfl (by decide) rfl ?_
        refine mm_goto (tgt := 7) dX9_holdPicked_27 (by decide) ?_
        refine mn_sub [0, 1, 2, 3] rfl ?_
        exact ih (i + 1) h2 (by omega) ha hf
  have hf := cm_fr.rf (o := o) (h := h)
  refine mm_aload_n dX9_holdPicked_0 rfl 0 rfl ?_
  refine mm_iload_n dX9_holdPicked_1 rfl 1 rfl ?_
  refine cm_putI dX9_holdPicked_2 ha hf zp_X9_56 (vA_lt hva 0 (by decide)) (vA_0 hva) rfl rfl rfl (fun h ha hf => ?_)
  refine mm_iconst (v := nI 0) dX9_holdPicked_5 (by decide) ?_
  refine mm_istore_n (L' := [(3, .int (nI (0))), (0, .ref (o + a)), (1, .int (v)), (2, .ref (o + 25))]) dX9_holdPicked_6 rfl (by decide) rfl ?_
  exact lp 24 0 _ (by omega) (by rw [fcp_0]; exact ha) hf
set_option maxRecDepth 100000 in
set_option maxHeartbeats 4000000 in
theorem cv_setSign {l : Launch} {D : va_G} {aa : Nat → ClassId} {b0 : Nat} {h : mm_H} {o : Nat} {X : Nat → Nat → Int32} {Y : Nat → Nat → Int64} {rl : Option Nat} {a sg : Nat} (ha : cm_at o X Y rl h) (hva : vA a) (h16 : sg < 16) : mm_V (zz_K l D aa b0) 1 yX9_setSign cX9_setSign 4 none 0 [(0, .ref (o + a)), (1, .int (nI (sg)))] [] h 0 0 (fun rv h' => rv = none ∧ ∃ X' : Nat → Nat → Int32, cm_at o X' Y rl h' ∧ cm_fr o h h' ∧ vs_ X' a sg ∧ (∀ b i, ¬ (b = a ∧ (i = 3 ∨ i = 4)) → b ≠ a + 1 → X' b i = X b i)) := by
  have en : ∀ (fu gv : Nat) (X1 : Nat → Nat → Int32) (h1 : mm_H), X1 a 3 = nI sg → X1 a 4 = nI gv → gr_at sg (0) gv → (∀ j, 0 ≤ j → j < 7 → X1 (a + 1) j = nI (fl_ sg j)) → (∀ b i, ¬ (b = a ∧ (i = 3 ∨ i = 4)) → b ≠ a + 1 → X1 b i = X b i) → cm_at o X1 Y rl h1 → cm_fr o h h1 → mm_V (zz_K l D aa b0) 1 yX9_setSign cX9_setSign 4 none 15 [(3, .int ((-1))), (2, .int (nI (fu))), (0, .ref (o + a)), (1, .int (nI (sg)))] [] h1 0 0 (fun rv h' => rv = none ∧ ∃ X' : Nat → Nat → Int32, cm_at o X' Y rl h' ∧ cm_fr o h h' ∧ vs_ X' a sg ∧ (∀ b i, ¬ (b = a ∧ (i = 3 ∨ i = 4)) → b ≠ a + 1 → X' b i = X b i)) := by
    intro fu gv X1 h1 h3 h4 hg hj ho ha hf
    refine mm_iload_n dX9_setSign_15 rfl 0 rfl ?_
    refine mm_if_lt (tgt := 74) dX9_setSign_16 (by decide) (fun c16 => ?_) (fun c16 => ?_)
    · have hgv := gr_gd hg
      subst hgv
      exact mm_vret dX9_setSign_74 rfl (⟨rfl, X1, ha, hf, ⟨h3, h16, h4, fun k hk => hj k (Nat.zero_le _) hk⟩, ho⟩)
    · exact absurd (by decide) c16
  have lp : ∀ (q fu gv : Nat) (X1 : Nat → Nat → Int32) (h1 : mm_H), q ≤ 6 → fu = (if q < 6 then fl_ sg (q + 1) else 3) → X1 a 3 = nI sg → X1 a 4 = nI gv → gr_at sg (q + 1) gv → (∀ j, q + 1 ≤ j → j < 7 → X1 (a + 1) j = nI (fl_ sg j)) → (∀ b i, ¬ (b = a ∧ (i = 3 ∨ i = 4)) → b ≠ a + 1 → X1 b i = X b i) → cm_at o X1 Y rl h1 → cm_fr o h h1 → mm_V (zz_K l D aa b0) 1 yX9_setSign cX9_setSign 4 none 15 [(3, .int (nI (q))), (2, .int (nI (fu))), (0, .ref (o + a)), (1, .int (nI (sg)))] [] h1 0 0 (fun rv h' => rv = none ∧ ∃ X' : Nat → Nat → Int32, cm_at o X' Y rl h' ∧ cm_fr o h h' ∧ vs_ X' a sg ∧ (∀ b i, ¬ (b = a ∧ (i = 3 ∨ i = 4)) → b ≠ a + 1 → X' b i = X b i)) := by
    intro q
    induction q with
    | zero =>
      intro fu gv X1 h1 hq6 hfu h3 h4 hg hj ho ha hf
      have hb1 := (fl_b sg h16 (0) (by omega)).1
      refine mm_iload_n dX9_setSign_15 rfl 0 rfl ?_
      refine mn_if_lt (tgt := 74) dX9_setSign_16 (by decide) (by omega) ?_
      have hfu2 : fu ≤ 972 := by rw [hfu]; split; exact (fl_b sg h16 _ (by omega)).1; omega
      refine mm_iload_n dX9_setSign_19 rfl 0 rfl ?_
      refine mm_bipush (v := nI 6) dX9_setSign_20 (by decide) ?_
      refine mn_icmp_ge (tgt := 41) dX9_setSign_22 (by decide) (by omega) (by omega) (fun c22 => ?_) (fun c22 => ?_)
      · omega
      · rw [if_pos (show 0 < 6 by omega)] at hfu
        subst hfu
        have hfs := fl_s sg h16 (0) (by omega)
        refine mm_iload_n dX9_setSign_25 rfl 1 rfl ?_
        refine mm_aload_n dX9_setSign_26 rfl 2 rfl ?_
        refine mm_iload_n dX9_setSign_27 rfl 0 rfl ?_
        refine cm_callVr (As := [.int (nI (0))]) (rest := [.int (nI (fl_ sg (0 + 1)))]) (d2 := 0) dX9_setSign_28 ha (vA_lt hva 0 (by decide)) (vA_0 hva) zz_clX9 zc_X9_36 zs_X9_isPerfect rfl rfl (Nat.le_of_ble_eq_true rfl) (Nat.le_of_ble_eq_true rfl) (by decide) (cv_isPerfect ha hva h3 h16 (by omega)) ?_
        refine mn_ifB_eq (tgt := 38) dX9_setSign_31 (by decide) (fun p31 => ?_) (fun p31 => ?_)
        · rw [if_neg (by rw [p31]; decide)] at hfs
          refine mm_iconst (v := nI 2) dX9_setSign_38 (by decide) ?_
          refine mn_imul dX9_setSign_39 ?_
          refine mn_top (u := .int (nI (fl_ sg (0)))) (congrArg Value.int (by rw [hfs, Nat.mul_comm])) ?_
          refine mm_istore_n (L' := [(2, .int (nI (fl_ sg (0)))), (3, .int (nI (0))), (0, .ref (o + a)), (1, .int (nI (sg)))]) dX9_setSign_40 rfl (by decide) rfl ?_
          refine mm_aload_n dX9_setSign_41 rfl 2 rfl ?_
          refine cm_getR (b := a + 1) dX9_setSign_42 ha zr_X9_9 (vA_lt hva 0 (by decide)) (vA_0 hva) rfl rfl ?_
          refine mm_iload_n dX9_setSign_45 rfl 1 rfl ?_
          refine mm_iload_n dX9_setSign_46 rfl 0 rfl ?_
          refine cm_iast (i := 0) dX9_setSign_47 ha hf (vA_lt hva 1 (by decide)) (vA_1 hva) (by omega) (by decide) (fun h1 ha hf => ?_)
          refine mm_aload_n dX9_setSign_48 rfl 2 rfl ?_
          refine mm_aload_n dX9_setSign_49 rfl 2 rfl ?_
          refine mm_iload_n dX9_setSign_50 rfl 1 rfl ?_
          refine cm_callVr (As := [.int (nI (0))]) (rest := [.ref (o + a)]) (d2 := 0) dX9_setSign_51 ha (vA_lt hva 0 (by decide)) (vA_0 hva) zz_clX9 zc_X9_36 zs_X9_isPerfect rfl rfl (Nat.le_of_ble_eq_true rfl) (Nat.le_of_ble_eq_true rfl) (by decide) (cv_isPerfect ha hva ((xu_a (by omega)).trans h3) h16 (by omega)) ?_
          refine mn_ifB_eq (tgt := 61) dX9_setSign_54 (by decide) (fun c54 => ?_) (fun c54 => ?_)
          · refine mm_aload_n dX9_setSign_61 rfl 2 rfl ?_
            refine cm_getI dX9_setSign_62 ha zr_X9_33 (vA_lt hva 0 (by decide)) (vA_0 hva) rfl ?_
            refine mn_top (u := .int (nI (gv))) (congrArg Value.int (Eq.trans (xu_a (by omega)) ((h4)))) ?_
            refine cm_putI dX9_setSign_65 ha hf zp_X9_33 (vA_lt hva 0 (by decide)) (vA_0 hva) rfl rfl rfl (fun h1 ha hf => ?_)
            refine mm_iinc (v := (-1)) (L' := [(3, .int ((-1))), (2, .int (nI (fl_ sg (0)))), (0, .ref (o + a)), (1, .int (nI (sg)))]) dX9_setSign_68 1 rfl (by decide) (by decide) rfl ?_
            refine mm_goto (tgt := 15) dX9_setSign_71 (by decide) ?_
            refine mn_sub [0, 1, 2, 3] rfl ?_
            exact en _ gv _ _ ((xu_i (by decide)).trans ((xu_a (by omega)).trans h3)) xu_s (gr_i hg c54) (fun j hj1 hj2 => by
                rw [xu_a (by omega)]
                by_cases e : j = 0
                · subst e; exact xu_s
                · exact (xu_i e).trans (hj j (by omega) hj2)) (fun b i n1 n2 => by
                rw [xu_z (fun z => n1 ⟨z.1, Or.inr z.2⟩), xu_a n2]
                exact ho b i n1 n2) ha hf
          · refine mm_iload_n dX9_setSign_57 rfl 1 rfl ?_
            refine mm_goto (tgt := 65) dX9_setSign_58 (by decide) ?_
            refine cm_putI dX9_setSign_65 ha hf zp_X9_33 (vA_lt hva 0 (by decide)) (vA_0 hva) rfl rfl rfl (fun h1 ha hf => ?_)
            refine mm_iinc (v := (-1)) (L' := [(3, .int ((-1))), (2, .int (nI (fl_ sg (0)))), (0, .ref (o + a)), (1, .int (nI (sg)))]) dX9_setSign_68 1 rfl (by decide) (by decide) rfl ?_
            refine mm_goto (tgt := 15) dX9_setSign_71 (by decide) ?_
            refine mn_sub [0, 1, 2, 3] rfl ?_
            exact en _ (0) _ _ ((xu_i (by decide)).trans ((xu_a (by omega)).trans h3)) xu_s (gr_p hg c54) (fun j hj1 hj2 => by
                rw [xu_a (by omega)]
                by_cases e : j = 0
                · subst e; exact xu_s
                · exact (xu_i e).trans (hj j (by omega) hj2)) (fun b i n1 n2 => by
                rw [xu_z (fun z => n1 ⟨z.1, Or.inr z.2⟩), xu_a n2]
                exact ho b i n1 n2) ha hf
        · rw [if_pos p31] at hfs
          refine mm_iconst (v := nI 3) dX9_setSign_34 (by decide) ?_
          refine mm_goto (tgt := 39) dX9_setSign_35 (by decide) ?_
          refine mn_imul dX9_setSign_39 ?_
          refine mn_top (u := .int (nI (fl_ sg (0)))) (congrArg Value.int (by rw [hfs, Nat.mul_comm])) ?_
          refine mm_istore_n (L' := [(2, .int (nI (fl_ sg (0)))), (3, .int (nI (0))), (0, .ref (o + a)), (1, .int (nI (sg)))]) dX9_setSign_40 rfl (by decide) rfl ?_
          refine mm_aload_n dX9_setSign_41 rfl 2 rfl ?_
          refine cm_getR (b := a + 1) dX9_setSign_42 ha zr_X9_9 (vA_lt hva 0 (by decide)) (vA_0 hva) rfl rfl ?_
          refine mm_iload_n dX9_setSign_45 rfl 1 rfl ?_
          refine mm_iload_n dX9_setSign_46 rfl 0 rfl ?_
          refine cm_iast (i := 0) dX9_setSign_47 ha hf (vA_lt hva 1 (by decide)) (vA_1 hva) (by omega) (by decide) (fun h1 ha hf => ?_)
          refine mm_aload_n dX9_setSign_48 rfl 2 rfl ?_
          refine mm_aload_n dX9_setSign_49 rfl 2 rfl ?_
          refine mm_iload_n dX9_setSign_50 rfl 1 rfl ?_
          refine cm_callVr (As := [.int (nI (0))]) (rest := [.ref (o + a)]) (d2 := 0) dX9_setSign_51 ha (vA_lt hva 0 (by decide)) (vA_0 hva) zz_clX9 zc_X9_36 zs_X9_isPerfect rfl rfl (Nat.le_of_ble_eq_true rfl) (Nat.le_of_ble_eq_true rfl) (by decide) (cv_isPerfect ha hva ((xu_a (by omega)).trans h3) h16 (by omega)) ?_
          refine mn_ifB_eq (tgt := 61) dX9_setSign_54 (by decide) (fun c54 => ?_) (fun c54 => ?_)
          · refine mm_aload_n dX9_setSign_61 rfl 2 rfl ?_
            refine cm_getI dX9_setSign_62 ha zr_X9_33 (vA_lt hva 0 (by decide)) (vA_0 hva) rfl ?_
            refine mn_top (u := .int (nI (gv))) (congrArg Value.int (Eq.trans (xu_a (by omega)) ((h4)))) ?_
            refine cm_putI dX9_setSign_65 ha hf zp_X9_33 (vA_lt hva 0 (by decide)) (vA_0 hva) rfl rfl rfl (fun h1 ha hf => ?_)
            refine mm_iinc (v := (-1)) (L' := [(3, .int ((-1))), (2, .int (nI (fl_ sg (0)))), (0, .ref (o + a)), (1, .int (nI (sg)))]) dX9_setSign_68 1 rfl (by decide) (by decide) rfl ?_
            refine mm_goto (tgt := 15) dX9_setSign_71 (by decide) ?_
            refine mn_sub [0, 1, 2, 3] rfl ?_
            exact en _ gv _ _ ((xu_i (by decide)).trans ((xu_a (by omega)).trans h3)) xu_s (gr_i hg c54) (fun j hj1 hj2 => by
                rw [xu_a (by omega)]
                by_cases e : j = 0
                · subst e; exact xu_s
                · exact (xu_i e).trans (hj j (by omega) hj2)) (fun b i n1 n2 => by
                rw [xu_z (fun z => n1 ⟨z.1, Or.inr z.2⟩), xu_a n2]
                exact ho b i n1 n2) ha hf
          · refine mm_iload_n dX9_setSign_57 rfl 1 rfl ?_
            refine mm_goto (tgt := 65) dX9_setSign_58 (by decide) ?_
            refine cm_putI dX9_setSign_65 ha hf zp_X9_33 (vA_lt hva 0 (by decide)) (vA_0 hva) rfl rfl rfl (fun h1 ha hf => ?_)
            refine mm_iinc (v := (-1)) (L' := [(3, .int ((-1))), (2, .int (nI (fl_ sg (0)))), (0, .ref (o + a)), (1, .int (nI (sg)))]) dX9_setSign_68 1 rfl (by decide) (by decide) rfl ?_
            refine mm_goto (tgt := 15) dX9_setSign_71 (by decide) ?_
            refine mn_sub [0, 1, 2, 3] rfl ?_
            exact en _ (0) _ _ ((xu_i (by decide)).trans ((xu_a (by omega)).trans h3)) xu_s (gr_p hg c54) (fun j hj1 hj2 => by
                rw [xu_a (by omega)]
                by_cases e : j = 0
                · subst e; exact xu_s
                · exact (xu_i e).trans (hj j (by omega) hj2)) (fun b i n1 n2 => by
                rw [xu_z (fun z => n1 ⟨z.1, Or.inr z.2⟩), xu_a n2]
                exact ho b i n1 n2) ha hf
    | succ q ih =>
      intro fu gv X1 h1 hq6 hfu h3 h4 hg hj ho ha hf
      have hb1 := (fl_b sg h16 (q + 1) (by omega)).1
      refine mm_iload_n dX9_setSign_15 rfl 0 rfl ?_
      refine mn_if_lt (tgt := 74) dX9_setSign_16 (by decide) (by omega) ?_
      have hfu2 : fu ≤ 972 := by rw [hfu]; split; exact (fl_b sg h16 _ (by omega)).1; omega
      refine mm_iload_n dX9_setSign_19 rfl 0 rfl ?_
      refine mm_bipush (v := nI 6) dX9_setSign_20 (by decide) ?_
      refine mn_icmp_ge (tgt := 41) dX9_setSign_22 (by decide) (by omega) (by omega) (fun c22 => ?_) (fun c22 => ?_)
      · have e5 : q = 5 := by omega
        subst e5
        have e6 : fu = fl_ sg (5 + 1) := by rw [hfu, if_neg (by decide)]; rfl
        subst e6
        refine mm_aload_n dX9_setSign_41 rfl 2 rfl ?_
        refine cm_getR (b := a + 1) dX9_setSign_42 ha zr_X9_9 (vA_lt hva 0 (by decide)) (vA_0 hva) rfl rfl ?_
        refine mm_iload_n dX9_setSign_45 rfl 0 rfl ?_
        refine mm_iload_n dX9_setSign_46 rfl 1 rfl ?_
        refine cm_iast (i := 5 + 1) dX9_setSign_47 ha hf (vA_lt hva 1 (by decide)) (vA_1 hva) (by omega) (by decide) (fun h1 ha hf => ?_)
        refine mm_aload_n dX9_setSign_48 rfl 2 rfl ?_
        refine mm_aload_n dX9_setSign_49 rfl 2 rfl ?_
        refine mm_iload_n dX9_setSign_50 rfl 0 rfl ?_
        refine cm_callVr (As := [.int (nI (5 + 1))]) (rest := [.ref (o + a)]) (d2 := 0) dX9_setSign_51 ha (vA_lt hva 0 (by decide)) (vA_0 hva) zz_clX9 zc_X9_36 zs_X9_isPerfect rfl rfl (Nat.le_of_ble_eq_true rfl) (Nat.le_of_ble_eq_true rfl) (by decide) (cv_isPerfect ha hva ((xu_a (by omega)).trans h3) h16 (by omega)) ?_
        refine mn_ifB_eq (tgt := 61) dX9_setSign_54 (by decide) (fun c54 => ?_) (fun c54 => ?_)
        · refine mm_aload_n dX9_setSign_61 rfl 2 rfl ?_
          refine cm_getI dX9_setSign_62 ha zr_X9_33 (vA_lt hva 0 (by decide)) (vA_0 hva) rfl ?_
          refine mn_top (u := .int (nI (gv))) (congrArg Value.int (Eq.trans (xu_a (by omega)) ((h4)))) ?_
          refine cm_putI dX9_setSign_65 ha hf zp_X9_33 (vA_lt hva 0 (by decide)) (vA_0 hva) rfl rfl rfl (fun h1 ha hf => ?_)
          refine mn_idec (L' := [(3, .int (nI (5))), (2, .int (nI (fl_ sg (5 + 1)))), (0, .ref (o + a)), (1, .int (nI (sg)))]) dX9_setSign_68 0 rfl (by decide) rfl ?_
          refine mm_goto (tgt := 15) dX9_setSign_71 (by decide) ?_
          refine mn_sub [0, 1, 2, 3] rfl ?_
          exact ih _ gv _ _ (by omega) (by rw [if_pos (by omega)]) ((xu_i (by decide)).trans ((xu_a (by omega)).trans h3)) xu_s (gr_i hg c54) (fun j hj1 hj2 => by
              rw [xu_a (by omega)]
              by_cases e : j = 5 + 1
              · subst e; exact xu_s
              · exact (xu_i e).trans (hj j (by omega) hj2)) (fun b i n1 n2 => by
              rw [xu_z (fun z => n1 ⟨z.1, Or.inr z.2⟩), xu_a n2]
              exact ho b i n1 n2) ha hf
        · refine mm_iload_n dX9_setSign_57 rfl 0 rfl ?_
          refine mm_goto (tgt := 65) dX9_setSign_58 (by decide) ?_
          refine cm_putI dX9_setSign_65 ha hf zp_X9_33 (vA_lt hva 0 (by decide)) (vA_0 hva) rfl rfl rfl (fun h1 ha hf => ?_)
          refine mn_idec (L' := [(3, .int (nI (5))), (2, .int (nI (fl_ sg (5 + 1)))), (0, .ref (o + a)), (1, .int (nI (sg)))]) dX9_setSign_68 0 rfl (by decide) rfl ?_
          refine mm_goto (tgt := 15) dX9_setSign_71 (by decide) ?_
          refine mn_sub [0, 1, 2, 3] rfl ?_
          exact ih _ (5 + 1) _ _ (by omega) (by rw [if_pos (by omega)]) ((xu_i (by decide)).trans ((xu_a (by omega)).trans h3)) xu_s (gr_p hg c54) (fun j hj1 hj2 => by
              rw [xu_a (by omega)]
              by_cases e : j = 5 + 1
              · subst e; exact xu_s
              · exact (xu_i e).trans (hj j (by omega) hj2)) (fun b i n1 n2 => by
              rw [xu_z (fun z => n1 ⟨z.1, Or.inr z.2⟩), xu_a n2]
              exact ho b i n1 n2) ha hf
      · rw [if_pos (show q + 1 < 6 by omega)] at hfu
        subst hfu
        have hfs := fl_s sg h16 (q + 1) (by omega)
        refine mm_iload_n dX9_setSign_25 rfl 1 rfl ?_
        refine mm_aload_n dX9_setSign_26 rfl 2 rfl ?_
        refine mm_iload_n dX9_setSign_27 rfl 0 rfl ?_
        refine cm_callVr (As := [.int (nI (q + 1))]) (rest := [.int (nI (fl_ sg (q + 1 + 1)))]) (d2 := 0) dX9_setSign_28 ha (vA_lt hva 0 (by decide)) (vA_0 hva) zz_clX9 zc_X9_36 zs_X9_isPerfect rfl rfl (Nat.le_of_ble_eq_true rfl) (Nat.le_of_ble_eq_true rfl) (by decide) (cv_isPerfect ha hva h3 h16 (by omega)) ?_
        refine mn_ifB_eq (tgt := 38) dX9_setSign_31 (by decide) (fun p31 => ?_) (fun p31 => ?_)
        · rw [if_neg (by rw [p31]; decide)] at hfs
          refine mm_iconst (v := nI 2) dX9_setSign_38 (by decide) ?_
          refine mn_imul dX9_setSign_39 ?_
          refine mn_top (u := .int (nI (fl_ sg (q + 1)))) (congrArg Value.int (by rw [hfs, Nat.mul_comm])) ?_
          refine mm_istore_n (L' := [(2, .int (nI (fl_ sg (q + 1)))), (3, .int (nI (q + 1))), (0, .ref (o + a)), (1, .int (nI (sg)))]) dX9_setSign_40 rfl (by decide) rfl ?_
          refine mm_aload_n dX9_setSign_41 rfl 2 rfl ?_
          refine cm_getR (b := a + 1) dX9_setSign_42 ha zr_X9_9 (vA_lt hva 0 (by decide)) (vA_0 hva) rfl rfl ?_
          refine mm_iload_n dX9_setSign_45 rfl 1 rfl ?_
          refine mm_iload_n dX9_setSign_46 rfl 0 rfl ?_
          refine cm_iast (i := q + 1) dX9_setSign_47 ha hf (vA_lt hva 1 (by decide)) (vA_1 hva) (by omega) (by decide) (fun h1 ha hf => ?_)
          refine mm_aload_n dX9_setSign_48 rfl 2 rfl ?_
          refine mm_aload_n dX9_setSign_49 rfl 2 rfl ?_
          refine mm_iload_n dX9_setSign_50 rfl 1 rfl ?_
          refine cm_callVr (As := [.int (nI (q + 1))]) (rest := [.ref (o + a)]) (d2 := 0) dX9_setSign_51 ha (vA_lt hva 0 (by decide)) (vA_0 hva) zz_clX9 zc_X9_36 zs_X9_isPerfect rfl rfl (Nat.le_of_ble_eq_true rfl) (Nat.le_of_ble_eq_true rfl) (by decide) (cv_isPerfect ha hva ((xu_a (by omega)).trans h3) h16 (by omega)) ?_
          refine mn_ifB_eq (tgt := 61) dX9_setSign_54 (by decide) (fun c54 => ?_) (fun c54 => ?_)
          · refine mm_aload_n dX9_setSign_61 rfl 2 rfl ?_
            refine cm_getI dX9_setSign_62 ha zr_X9_33 (vA_lt hva 0 (by decide)) (vA_0 hva) rfl ?_
            refine mn_top (u := .int (nI (gv))) (congrArg Value.int (Eq.trans (xu_a (by omega)) ((h4)))) ?_
            refine cm_putI dX9_setSign_65 ha hf zp_X9_33 (vA_lt hva 0 (by decide)) (vA_0 hva) rfl rfl rfl (fun h1 ha hf => ?_)
            refine mn_idec (L' := [(3, .int (nI (q))), (2, .int (nI (fl_ sg (q + 1)))), (0, .ref (o + a)), (1, .int (nI (sg)))]) dX9_setSign_68 1 rfl (by decide) rfl ?_
            refine mm_goto (tgt := 15) dX9_setSign_71 (by decide) ?_
            refine mn_sub [0, 1, 2, 3] rfl ?_
            exact ih _ gv _ _ (by omega) (by rw [if_pos (by omega)]) ((xu_i (by decide)).trans ((xu_a (by omega)).trans h3)) xu_s (gr_i hg c54) (fun j hj1 hj2 => by
                rw [xu_a (by omega)]
                by_cases e : j = q + 1
                · subst e; exact xu_s
                · exact (xu_i e).trans (hj j (by omega) hj2)) (fun b i n1 n2 => by
                rw [xu_z (fun z => n1 ⟨z.1, Or.inr z.2⟩), xu_a n2]
                exact ho b i n1 n2) ha hf
          · refine mm_iload_n dX9_setSign_57 rfl 1 rfl ?_
            refine mm_goto (tgt := 65) dX9_setSign_58 (by decide) ?_
            refine cm_putI dX9_setSign_65 ha hf zp_X9_33 (vA_lt hva 0 (by decide)) (vA_0 hva) rfl rfl rfl (fun h1 ha hf => ?_)
            refine mn_idec (L' := [(3, .int (nI (q))), (2, .int (nI (fl_ sg (q + 1)))), (0, .ref (o + a)), (1, .int (nI (sg)))]) dX9_setSign_68 1 rfl (by decide) rfl ?_
            refine mm_goto (tgt := 15) dX9_setSign_71 (by decide) ?_
            refine mn_sub [0, 1, 2, 3] rfl ?_
            exact ih _ (q + 1) _ _ (by omega) (by rw [if_pos (by omega)]) ((xu_i (by decide)).trans ((xu_a (by omega)).trans h3)) xu_s (gr_p hg c54) (fun j hj1 hj2 => by
                rw [xu_a (by omega)]
                by_cases e : j = q + 1
                · subst e; exact xu_s
                · exact (xu_i e).trans (hj j (by omega) hj2)) (fun b i n1 n2 => by
                rw [xu_z (fun z => n1 ⟨z.1, Or.inr z.2⟩), xu_a n2]
                exact ho b i n1 n2) ha hf
        · rw [if_pos p31] at hfs
          refine mm_iconst (v := nI 3) dX9_setSign_34 (by decide) ?_
          refine mm_goto (tgt := 39) dX9_setSign_35 (by decide) ?_
          refine mn_imul dX9_setSign_39 ?_
          refine mn_top (u := .int (nI (fl_ sg (q + 1)))) (congrArg Value.int (by rw [hfs, Nat.mul_comm])) ?_
          refine mm_istore_n (L' := [(2, .int (nI (fl_ sg (q + 1)))), (3, .int (nI (q + 1))), (0, .ref (o + a)), (1, .int (nI (sg)))]) dX9_setSign_40 rfl (by decide) rfl ?_
          refine mm_aload_n dX9_setSign_41 rfl 2 rfl ?_
          refine cm_getR (b := a + 1) dX9_setSign_42 ha zr_X9_9 (vA_lt hva 0 (by decide)) (vA_0 hva) rfl rfl ?_
          refine mm_iload_n dX9_setSign_45 rfl 1 rfl ?_
          refine mm_iload_n dX9_setSign_46 rfl 0 rfl ?_
          refine cm_iast (i := q + 1) dX9_setSign_47 ha hf (vA_lt hva 1 (by decide)) (vA_1 hva) (by omega) (by decide) (fun h1 ha hf => ?_)
          refine mm_aload_n dX9_setSign_48 rfl 2 rfl ?_
          refine mm_aload_n dX9_setSign_49 rfl 2 rfl ?_
          refine mm_iload_n dX9_setSign_50 rfl 1 rfl ?_
          refine cm_callVr (As := [.int (nI (q + 1))]) (rest := [.ref (o + a)]) (d2 := 0) dX9_setSign_51 ha (vA_lt hva 0 (by decide)) (vA_0 hva) zz_clX9 zc_X9_36 zs_X9_isPerfect rfl rfl (Nat.le_of_ble_eq_true rfl) (Nat.le_of_ble_eq_true rfl) (by decide) (cv_isPerfect ha hva ((xu_a (by omega)).trans h3) h16 (by omega)) ?_
          refine mn_ifB_eq (tgt := 61) dX9_setSign_54 (by decide) (fun c54 => ?_) (fun c54 => ?_)
          · refine mm_aload_n dX9_setSign_61 rfl 2 rfl ?_
            refine cm_getI dX9_setSign_62 ha zr_X9_33 (vA_lt hva 0 (by decide)) (vA_0 hva) rfl ?_
            refine mn_top (u := .int (nI (gv))) (congrArg Value.int (Eq.trans (xu_a (by omega)) ((h4)))) ?_
            refine cm_putI dX9_setSign_65 ha hf zp_X9_33 (vA_lt hva 0 (by decide)) (vA_0 hva) rfl rfl rfl (fun h1 ha hf => ?_)
            refine mn_idec (L' := [(3, .int (nI (q))), (2, .int (nI (fl_ sg (q + 1)))), (0, .ref (o + a)), (1, .int (nI (sg)))]) dX9_setSign_68 1 rfl (by decide) rfl ?_
            refine mm_goto (tgt := 15) dX9_setSign_71 (by decide) ?_
            refine mn_sub [0, 1, 2, 3] rfl ?_
            exact ih _ gv _ _ (by omega) (by rw [if_pos (by omega)]) ((xu_i (by decide)).trans ((xu_a (by omega)).trans h3)) xu_s (gr_i hg c54) (fun j hj1 hj2 => by
                rw [xu_a (by omega)]
                by_cases e : j = q + 1
                · subst e; exact xu_s
                · exact (xu_i e).trans (hj j (by omega) hj2)) (fun b i n1 n2 => by
                rw [xu_z (fun z => n1 ⟨z.1, Or.inr z.2⟩), xu_a n2]
                exact ho b i n1 n2) ha hf
          · refine mm_iload_n dX9_setSign_57 rfl 1 rfl ?_
            refine mm_goto (tgt := 65) dX9_setSign_58 (by decide) ?_
            refine cm_putI dX9_setSign_65 ha hf zp_X9_33 (vA_lt hva 0 (by decide)) (vA_0 hva) rfl rfl rfl (fun h1 ha hf => ?_)
            refine mn_idec (L' := [(3, .int (nI (q))), (2, .int (nI (fl_ sg (q + 1)))), (0, .ref (o + a)), (1, .int (nI (sg)))]) dX9_setSign_68 1 rfl (by decide) rfl ?_
            refine mm_goto (tgt := 15) dX9_setSign_71 (by decide) ?_
            refine mn_sub [0, 1, 2, 3] rfl ?_
            exact ih _ (q + 1) _ _ (by omega) (by rw [if_pos (by omega)]) ((xu_i (by decide)).trans ((xu_a (by omega)).trans h3)) xu_s (gr_p hg c54) (fun j hj1 hj2 => by
                rw [xu_a (by omega)]
                by_cases e : j = q + 1
                · subst e; exact xu_s
                · exact (xu_i e).trans (hj j (by omega) hj2)) (fun b i n1 n2 => by
                rw [xu_z (fun z => n1 ⟨z.1, Or.inr z.2⟩), xu_a n2]
                exact ho b i n1 n2) ha hf
  have hf := cm_fr.rf (o := o) (h := h)
  refine mm_aload_n dX9_setSign_0 rfl 0 rfl ?_
  refine mm_iload_n dX9_setSign_1 rfl 1 rfl ?_
  refine cm_putI dX9_setSign_2 ha hf zp_X9_29 (vA_lt hva 0 (by decide)) (vA_0 hva) rfl rfl rfl (fun h ha hf => ?_)
  refine mm_aload_n dX9_setSign_5 rfl 0 rfl ?_
  refine mm_iconst (v := nI 4) dX9_setSign_6 (by decide) ?_
  refine cm_putI dX9_setSign_7 ha hf zp_X9_33 (vA_lt hva 0 (by decide)) (vA_0 hva) rfl rfl rfl (fun h ha hf => ?_)
  refine mm_iconst (v := nI 3) dX9_setSign_10 (by decide) ?_
  refine mm_istore_n (L' := [(2, .int (nI (3))), (0, .ref (o + a)), (1, .int (nI (sg)))]) dX9_setSign_11 rfl (by decide) rfl ?_
  refine mm_bipush (v := nI 6) dX9_setSign_12 (by decide) ?_
  refine mm_istore_n (L' := [(3, .int (nI (6))), (2, .int (nI (3))), (0, .ref (o + a)), (1, .int (nI (sg)))]) dX9_setSign_14 rfl (by decide) rfl ?_
  exact lp 6 3 4 _ _ (by omega) (by rw [if_neg (by decide)]) ((xu_i (by decide)).trans xu_s) xu_s gr_7 (fun j h1 h2 => by omega) (fun b i n1 n2 => by rw [xu_z (fun z => n1 ⟨z.1, Or.inr z.2⟩), xu_z (fun z => n1 ⟨z.1, Or.inl z.2⟩)]) ha hf
