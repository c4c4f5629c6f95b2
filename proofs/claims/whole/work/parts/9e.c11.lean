/-! Reader: steps -/
set_option maxRecDepth 100000 in
set_option maxHeartbeats 4000000 in
theorem cR_save {l : Launch} {D : va_G} {aa : Nat → ClassId} {b0 : Nat} {h : mm_H} {o : Nat} {X : Nat → Nat → Int32} {Y : Nat → Nat → Int64} {rl : Option Nat} {d : Nat} (ha : cm_at o X Y rl h) (hd : d < 48) : mm_V (zz_K l D aa b0) 0 yX5_save cX5_save 2 none 0 [(0, .ref (o + 3)), (1, .int (nI (d)))] [] h 0 0 (fun rv h' => rv = none ∧ cm_at o (xu (xu (xu (xu (xu (xu (xu X 28 d (X 3 10)) 29 d (X 25 4)) 30 d (nI 0)) 31 d (X 4 6)) 32 d (X 25 2)) 33 d (X 25 3)) 34 d (X 25 5)) Y rl h' ∧ cm_fr o h h') := by
  have hf := cm_fr.rf (o := o) (h := h)
  refine mm_iload_n dX5_save_0 rfl 1 rfl ?_
  refine mn_if_lt (tgt := 10) dX5_save_1 (by decide) (by omega) ?_
  refine mm_iload_n dX5_save_4 rfl 1 rfl ?_
  refine mm_bipush (v := nI 48) dX5_save_5 (by decide) ?_
  refine mn_icmp_lt (tgt := 11) dX5_save_7 (by decide) (by omega) (by omega) (fun c7 => ?_) (fun c7 => ?_)
  · refine mm_aload_n dX5_save_11 rfl 0 rfl ?_
    refine cm_getR (b := 28) dX5_save_12 ha zr_X5_32 (by decide) rfl rfl rfl ?_
    refine mm_iload_n dX5_save_15 rfl 1 rfl ?_
    refine mm_aload_n dX5_save_16 rfl 0 rfl ?_
    refine cm_getI dX5_save_17 ha zr_X5_109 (by decide) rfl rfl ?_
    refine mn_top (u := .int (X 3 10)) (congrArg Value.int ((rfl))) ?_
    refine cm_iast (i := d) dX5_save_20 ha hf (by decide) rfl (by omega) (by decide) (fun h ha hf => ?_)
    refine mm_aload_n dX5_save_21 rfl 0 rfl ?_
    refine cm_getR (b := 29) dX5_save_22 ha zr_X5_36 (by decide) rfl rfl rfl ?_
    refine mm_iload_n dX5_save_25 rfl 1 rfl ?_
    refine mm_aload_n dX5_save_26 rfl 0 rfl ?_
    refine cm_getR (b := 25) dX5_save_27 ha zr_X5_28 (by decide) rfl rfl rfl ?_
    refine cm_getI dX5_save_30 ha zr_X5_116 (by decide) rfl rfl ?_
    refine mn_top (u := .int (X 25 4)) (congrArg Value.int (Eq.trans (xu_a (by decide)) ((rfl)))) ?_
    refine cm_iast (i := d) dX5_save_33 ha hf (by decide) rfl (by omega) (by decide) (fun h ha hf => ?_)
    refine mm_aload_n dX5_save_34 rfl 0 rfl ?_
    refine cm_getR (b := 30) dX5_save_35 ha zr_X5_39 (by decide) rfl rfl rfl ?_
    refine mm_iload_n dX5_save_38 rfl 1 rfl ?_
    refine mm_iconst (v := nI 0) dX5_save_39 (by decide) ?_
    refine cm_iast (i := d) dX5_save_40 ha hf (by decide) rfl (by omega) (by decide) (fun h ha hf => ?_)
    refine mm_aload_n dX5_save_41 rfl 0 rfl ?_
    refine cm_getR (b := 31) dX5_save_42 ha zr_X5_42 (by decide) rfl rfl rfl ?_
    refine mm_iload_n dX5_save_45 rfl 1 rfl ?_
    refine mm_aload_n dX5_save_46 rfl 0 rfl ?_
    refine cm_getR (b := 4) dX5_save_47 ha zr_X5_14 (by decide) rfl rfl rfl ?_
    refine cm_getI dX5_save_50 ha zr_X5_171 (by decide) rfl rfl ?_
    refine mn_top (u := .int (X 4 6)) (congrArg Value.int (Eq.trans (xu_a (by decide)) (Eq.trans (xu_a (by decide)) (Eq.trans (xu_a (by decide)) ((rfl)))))) ?_
    refine cm_iast (i := d) dX5_save_53 ha hf (by decide) rfl (by omega) (by decide) (fun h ha hf => ?_)
    refine mm_aload_n dX5_save_54 rfl 0 rfl ?_
    refine cm_getR (b := 32) dX5_save_55 ha zr_X5_45 (by decide) rfl rfl rfl ?_
    refine mm_iload_n dX5_save_58 rfl 1 rfl ?_
    refine mm_aload_n dX5_save_59 rfl 0 rfl ?_
    refine cm_getR (b := 25) dX5_save_60 ha zr_X5_28 (by decide) rfl rfl rfl ?_
    refine cm_getI dX5_save_63 ha zr_X5_174 (by decide) rfl rfl ?_
    refine mn_top (u := .int (X 25 2)) (congrArg Value.int (Eq.trans (xu_a (by decide)) (Eq.trans (xu_a (by decide)) (Eq.trans (xu_a (by decide)) (Eq.trans (xu_a (by decide)) ((rfl))))))) ?_
    refine cm_iast (i := d) dX5_save_66 ha hf (by decide) rfl (by omega) (by decide) (fun h ha hf => ?_)
    refine mm_aload_n dX5_save_67 rfl 0 rfl ?_
    refine cm_getR (b := 33) dX5_save_68 ha zr_X5_48 (by decide) rfl rfl rfl ?_
    refine mm_iload_n dX5_save_71 rfl 1 rfl ?_
    refine mm_aload_n dX5_save_72 rfl 0 rfl ?_
    refine cm_getR (b := 25) dX5_save_73 ha zr_X5_28 (by decide) rfl rfl rfl ?_
    refine cm_getI dX5_save_76 ha zr_X5_147 (by decide) rfl rfl ?_
    refine mn_top (u := .int (X 25 3)) (congrArg Value.int (Eq.trans (xu_a (by decide)) (Eq.trans (xu_a (by decide)) (Eq.trans (xu_a (by decide)) (Eq.trans (xu_a (by decide)) (Eq.trans (xu_a (by decide)) ((rfl)))))))) ?_
    refine cm_iast (i := d) dX5_save_79 ha hf (by decide) rfl (by omega) (by decide) (fun h ha hf => ?_)
    refine mm_aload_n dX5_save_80 rfl 0 rfl ?_
    refine cm_getR (b := 34) dX5_save_81 ha zr_X5_51 (by decide) rfl rfl rfl ?_
    refine mm_iload_n dX5_save_84 rfl 1 rfl ?_
    refine mm_aload_n dX5_save_85 rfl 0 rfl ?_
    refine cm_getR (b := 25) dX5_save_86 ha zr_X5_28 (by decide) rfl rfl rfl ?_
    refine cm_getI dX5_save_89 ha zr_X5_157 (by decide) rfl rfl ?_
    refine mn_top (u := .int (X 25 5)) (congrArg Value.int (Eq.trans (xu_a (by decide)) (Eq.trans (xu_a (by decide)) (Eq.trans (xu_a (by decide)) (Eq.trans (xu_a (by decide)) (Eq.trans (xu_a (by decide)) (Eq.trans (xu_a (by decide)) ((rfl))))))))) ?_
    refine cm_iast (i := d) dX5_save_92 ha hf (by decide) rfl (by omega) (by decide) (fun h ha hf => ?_)
    exact mm_vret dX5_save_93 rfl (⟨rfl, ha, hf⟩)
  · omega
set_option maxRecDepth 100000 in
set_option maxHeartbeats 4000000 in
theorem cR_restore {l : Launch} {D : va_G} {aa : Nat → ClassId} {b0 : Nat} {h : mm_H} {o : Nat} {X : Nat → Nat → Int32} {Y : Nat → Nat → Int64} {rl : Option Nat} {d : Nat} (ha : cm_at o X Y rl h) (hd : d < 48) : mm_V (zz_K l D aa b0) 0 yX5_restore cX5_restore 2 none 0 [(0, .ref (o + 3)), (1, .int (nI (d)))] [] h 0 0 (fun rv h' => rv = none ∧ cm_at o (xu (xu (xu (xu (xu (xu X 3 10 (X 28 d)) 25 4 (X 29 d)) 4 6 (X 31 d)) 25 2 (X 32 d)) 25 3 (X 33 d)) 25 5 (X 34 d)) Y rl h' ∧ cm_fr o h h') := by
  have hf := cm_fr.rf (o := o) (h := h)
  refine mm_iload_n dX5_restore_0 rfl 1 rfl ?_
  refine mn_if_lt (tgt := 10) dX5_restore_1 (by decide) (by omega) ?_
  refine mm_iload_n dX5_restore_4 rfl 1 rfl ?_
  refine mm_bipush (v := nI 48) dX5_restore_5 (by decide) ?_
  refine mn_icmp_lt (tgt := 11) dX5_restore_7 (by decide) (by omega) (by omega) (fun c7 => ?_) (fun c7 => ?_)
  · refine mm_aload_n dX5_restore_11 rfl 0 rfl ?_
    refine mm_aload_n dX5_restore_12 rfl 0 rfl ?_
    refine cm_getR (b := 28) dX5_restore_13 ha zr_X5_32 (by decide) rfl rfl rfl ?_
    refine mm_iload_n dX5_restore_16 rfl 1 rfl ?_
    refine cm_iald (i := d) dX5_restore_17 ha (by decide) rfl (by omega) (by decide) ?_
    refine mn_top (u := .int (X 28 d)) (congrArg Value.int (by first | rfl | exact xu_a (by decide) | exact (xu_a (by decide)).trans (xu_a (by decide)) | exact (xu_a (by decide)).trans ((xu_a (by decide)).trans (xu_a (by decide))) | exact (xu_a (by decide)).trans ((xu_a (by decide)).trans ((xu_a (by decide)).trans (xu_a (by decide)))) | exact (xu_a (by decide)).trans ((xu_a (by decide)).trans ((xu_a (by decide)).trans ((xu_a (by decide)).trans (xu_a (by decide))))) | exact (xu_a (by decide)).trans ((xu_a (by decide)).trans ((xu_a (by decide)).trans ((xu_a (by decide)).trans ((xu_a (by decide)).trans (xu_a (by decide)))))))) ?_
    refine cm_putI dX5_restore_18 ha hf zp_X5_109 (by decide) rfl rfl rfl rfl (fun h ha hf => ?_)
    refine mm_aload_n dX5_restore_21 rfl 0 rfl ?_
    refine cm_getR (b := 25) dX5_restore_22 ha zr_X5_28 (by decide) rfl rfl rfl ?_
    refine mm_aload_n dX5_restore_25 rfl 0 rfl ?_
    refine cm_getR (b := 29) dX5_restore_26 ha zr_X5_36 (by decide) rfl rfl rfl ?_
    refine mm_iload_n dX5_restore_29 rfl 1 rfl ?_
    refine cm_iald (i := d) dX5_restore_30 ha (by decide) rfl (by omega) (by decide) ?_
    refine mn_top (u := .int (X 29 d)) (congrArg Value.int (by first | rfl | exact xu_a (by decide) | exact (xu_a (by decide)).trans (xu_a (by decide)) | exact (xu_a (by decide)).trans ((xu_a (by decide)).trans (xu_a (by decide))) | exact (xu_a (by decide)).trans ((xu_a (by decide)).trans ((xu_a (by decide)).trans (xu_a (by decide)))) | exact (xu_a (by decide)).trans ((xu_a (by decide)).trans ((xu_a (by decide)).trans ((xu_a (by decide)).trans (xu_a (by decide))))) | exact (xu_a (by decide)).trans ((xu_a (by decide)).trans ((xu_a (by decide)).trans ((xu_a (by decide)).trans ((xu_a (by decide)).trans (xu_a (by decide)))))))) ?_
    refine cm_putI dX5_restore_31 ha hf zp_X5_116 (by decide) rfl rfl rfl rfl (fun h ha hf => ?_)
    refine mm_aload_n dX5_restore_34 rfl 0 rfl ?_
    refine cm_getR (b := 4) dX5_restore_35 ha zr_X5_14 (by decide) rfl rfl rfl ?_
    refine mm_aload_n dX5_restore_38 rfl 0 rfl ?_
    refine cm_getR (b := 31) dX5_restore_39 ha zr_X5_42 (by decide) rfl rfl rfl ?_
    refine mm_iload_n dX5_restore_42 rfl 1 rfl ?_
    refine cm_iald (i := d) dX5_restore_43 ha (by decide) rfl (by omega) (by decide) ?_
    refine mn_top (u := .int (X 31 d)) (congrArg Value.int (by first | rfl | exact xu_a (by decide) | exact (xu_a (by decide)).trans (xu_a (by decide)) | exact (xu_a (by decide)).trans ((xu_a (by decide)).trans (xu_a (by decide))) | exact (xu_a (by decide)).trans ((xu_a (by decide)).trans ((xu_a (by decide)).trans (xu_a (by decide)))) | exact (xu_a (by decide)).trans ((xu_a (by decide)).trans ((xu_a (by decide)).trans ((xu_a (by decide)).trans (xu_a (by decide))))) | exact (xu_a (by decide)).trans ((xu_a (by decide)).trans ((xu_a (by decide)).trans ((xu_a (by decide)).trans ((xu_a (by decide)).trans (xu_a (by decide)))))))) ?_
    refine cm_putI dX5_restore_44 ha hf zp_X5_171 (by decide) rfl rfl rfl rfl (fun h ha hf => ?_)
    refine mm_aload_n dX5_restore_47 rfl 0 rfl ?_
    refine cm_getR (b := 25) dX5_restore_48 ha zr_X5_28 (by decide) rfl rfl rfl ?_
    refine mm_aload_n dX5_restore_51 rfl 0 rfl ?_
    refine cm_getR (b := 32) dX5_restore_52 ha zr_X5_45 (by decide) rfl rfl rfl ?_
    refine mm_iload_n dX5_restore_55 rfl 1 rfl ?_
    refine cm_iald (i := d) dX5_restore_56 ha (by decide) rfl (by omega) (by decide) ?_
    refine mn_top (u := .int (X 32 d)) (congrArg Value.int (by first | rfl | exact xu_a (by decide) | exact (xu_a (by decide)).trans (xu_a (by decide)) | exact (xu_a (by decide)).trans ((xu_a (by decide)).trans (xu_a (by decide))) | exact (xu_a (by decide)).trans ((xu_a (by decide)).trans ((xu_a (by decide)).trans (xu_a (by decide)))) | exact (xu_a (by decide)).trans ((xu_a (by decide)).trans ((xu_a (by decide)).trans ((xu_a (by decide)).trans (xu_a (by decide))))) | exact (xu_a (by decide)).trans ((xu_a (by decide)).trans ((xu_a (by decide)).trans ((xu_a (by decide)).trans ((xu_a (by decide)).trans (xu_a (by decide)))))))) ?_
    refine cm_putI dX5_restore_57 ha hf zp_X5_174 (by decide) rfl rfl rfl rfl (fun h ha hf => ?_)
    refine mm_aload_n dX5_restore_60 rfl 0 rfl ?_
    refine cm_getR (b := 25) dX5_restore_61 ha zr_X5_28 (by decide) rfl rfl rfl ?_
    refine mm_aload_n dX5_restore_64 rfl 0 rfl ?_
    refine cm_getR (b := 33) dX5_restore_65 ha zr_X5_48 (by decide) rfl rfl rfl ?_
    refine mm_iload_n dX5_restore_68 rfl 1 rfl ?_
    refine cm_iald (i := d) dX5_restore_69 ha (by decide) rfl (by omega) (by decide) ?_
    refine mn_top (u := .int (X 33 d)) (congrArg Value.int (by first | rfl | exact xu_a (by decide) | exact (xu_a (by decide)).trans (xu_a (by decide)) | exact (xu_a (by decide)).trans ((xu_a (by decide)).trans (xu_a (by decide))) | exact (xu_a (by decide)).trans ((xu_a (by decide)).trans ((xu_a (by decide)).trans (xu_a (by decide)))) | exact (xu_a (by decide)).trans ((xu_a (by decide)).trans ((xu_a (by decide)).trans ((xu_a (by decide)).trans (xu_a (by decide))))) | exact (xu_a (by decide)).trans ((xu_a (by decide)).trans ((xu_a (by decide)).trans ((xu_a (by decide)).trans ((xu_a (by decide)).trans (xu_a (by decide)))))))) ?_
    refine cm_putI dX5_restore_70 ha hf zp_X5_147 (by decide) rfl rfl rfl rfl (fun h ha hf => ?_)
    refine mm_aload_n dX5_restore_73 rfl 0 rfl ?_
    refine cm_getR (b := 25) dX5_restore_74 ha zr_X5_28 (by decide) rfl rfl rfl ?_
    refine mm_aload_n dX5_restore_77 rfl 0 rfl ?_
    refine cm_getR (b := 34) dX5_restore_78 ha zr_X5_51 (by decide) rfl rfl rfl ?_
    refine mm_iload_n dX5_restore_81 rfl 1 rfl ?_
    refine cm_iald (i := d) dX5_restore_82 ha (by decide) rfl (by omega) (by decide) ?_
    refine mn_top (u := .int (X 34 d)) (congrArg Value.int (by first | rfl | exact xu_a (by decide) | exact (xu_a (by decide)).trans (xu_a (by decide)) | exact (xu_a (by decide)).trans ((xu_a (by decide)).trans (xu_a (by decide))) | exact (xu_a (by decide)).trans ((xu_a (by decide)).trans ((xu_a (by decide)).trans (xu_a (by decide)))) | exact (xu_a (by decide)).trans ((xu_a (by decide)).trans ((xu_a (by decide)).trans ((xu_a (by decide)).trans (xu_a (by decide))))) | exact (xu_a (by decide)).trans ((xu_a (by decide)).trans ((xu_a (by decide)).trans ((xu_a (by decide)).trans ((xu_a (by decide)).trans (xu_a (by decide)))))))) ?_
    refine cm_putI dX5_restore_83 ha hf zp_X5_157 (by decide) rfl rfl rfl rfl (fun h ha hf => ?_)
    exact mm_vret dX5_restore_86 rfl (⟨rfl, ha, hf⟩)
  · omega
set_option maxRecDepth 100000 in
set_option maxHeartbeats 4000000 in
theorem cR_savem {l : Launch} {D : va_G} {aa : Nat → ClassId} {b0 : Nat} {h : mm_H} {o : Nat} {X : Nat → Nat → Int32} {Y : Nat → Nat → Int64} {rl : Option Nat}  (ha : cm_at o X Y rl h) : mm_V (zz_K l D aa b0) 0 yX5_save cX5_save 2 none 0 [(0, .ref (o + 3)), (1, .int ((-1)))] [] h 0 0 (fun rv h' => rv = none ∧ cm_at o (X) Y rl h' ∧ cm_fr o h h') := by
  have hf := cm_fr.rf (o := o) (h := h)
  refine mm_iload_n dX5_save_0 rfl 1 rfl ?_
  refine mm_if_lt (tgt := 10) dX5_save_1 (by decide) (fun c1 => ?_) (fun c1 => ?_)
  · exact mm_vret dX5_save_10 rfl (⟨rfl, ha, hf⟩)
  · exact absurd (by decide) c1
set_option maxRecDepth 100000 in
set_option maxHeartbeats 4000000 in
theorem cR_begin {l : Launch} {D : va_G} {aa : Nat → ClassId} {b0 : Nat} {h : mm_H} {o : Nat} {X : Nat → Nat → Int32} {Y : Nat → Nat → Int64} {rl : Option Nat} {M : Nat} (ha : cm_at o X Y rl h) (hM : X 10 11 = nI M) : mm_V (zz_K l D aa b0) 2 yX5_begin cX5_begin 1 none 0 [(0, .ref (o + 3))] [] h 0 0 (fun rv h' => rv = none ∧ cm_at o (xu (xu (xu (xu (pu_ (xu (xu X 3 10 (nI 0)) 4 6 (nI 0)) 0 (nI 0) (nI 0) (nI 0) (nI 0) (nI M)) 25 2 (nI 0)) 25 3 (nI 0)) 25 4 (nI 0)) 25 5 (nI 1)) Y rl h' ∧ cm_fr o h h') := by
  have hf := cm_fr.rf (o := o) (h := h)
  refine mm_aload_n dX5_begin_0 rfl 0 rfl ?_
  refine mm_iconst (v := nI 0) dX5_begin_1 (by decide) ?_
  refine cm_putI dX5_begin_2 ha hf zp_X5_109 (by decide) rfl rfl rfl rfl (fun h ha hf => ?_)
  refine mm_aload_n dX5_begin_5 rfl 0 rfl ?_
  refine cm_getR (b := 4) dX5_begin_6 ha zr_X5_14 (by decide) rfl rfl rfl ?_
  refine cm_callV (As := []) (rest := []) (d2 := 1) dX5_begin_9 ha (by decide) rfl zz_clX0 zc_X5_141 zs_X0_begin rfl rfl (Nat.le_of_ble_eq_true rfl) (Nat.le_of_ble_eq_true rfl) (by decide) (cc_begin ha ((xu_a (by decide)).trans hM)) (fun r h1 hq => ?_)
  obtain ⟨rfl, ha, hf'⟩ := hq
  have hf := hf.tr hf'
  refine mm_aload_n dX5_begin_12 rfl 0 rfl ?_
  refine cm_getR (b := 25) dX5_begin_13 ha zr_X5_28 (by decide) rfl rfl rfl ?_
  refine cm_callV (As := []) (rest := []) (d2 := 0) dX5_begin_16 ha (by decide) rfl zz_clX1 zc_X5_142 zs_X1_begin rfl rfl (Nat.le_of_ble_eq_true rfl) (Nat.le_of_ble_eq_true rfl) (by decide) (cd_begin ha) (fun r h1 hq => ?_)
  obtain ⟨rfl, ha, hf'⟩ := hq
  have hf := hf.tr hf'
  exact mm_vret dX5_begin_19 rfl (⟨rfl, ha, hf⟩)
theorem sd_eq {X : Nat → Nat → Int32} {a p : Nat} {w : ro_w} (hw : vw_ X a w) : (if p < w.1 then X (a + 3 + 1) p else (-1)) = (if ro_dot w p = true then nI 3 else (if p < w.1 then nI (w.2.1 p) else (-1))) := by
  unfold ro_dot
  by_cases h : p < w.1
  · rw [if_pos h, if_pos h]
    have := (hw.2 p h).1
    rw [show a + 3 + 1 = a + 4 from rfl, this]
    by_cases h3 : w.2.1 p = 3
    · rw [h3, decide_eq_true h]; rfl
    · rw [decide_eq_false h3, Bool.and_false]; rfl
  · rw [if_neg h, if_neg h, decide_eq_false h, Bool.false_and]; rfl
theorem sd_dot {X : Nat → Nat → Int32} {a p : Nat} {w : ro_w} (hw : vw_ X a w) (h : (if ro_dot w p = true then nI 3 else (if p < w.1 then nI (w.2.1 p) else (-1))) = nI 3) : ro_dot w p = true := by
  cases hd : ro_dot w p with
  | true => rfl
  | false =>
    exfalso
    rw [hd, if_neg (by decide)] at h
    by_cases hp : p < w.1
    · rw [if_pos hp] at h
      have h1 := (hw.2 p hp).2.1
      unfold ro_dot at hd
      rw [decide_eq_true hp, Bool.true_and, decide_eq_false_iff_not] at hd
      have e := congrArg Int32.toInt h
      rw [nI_toInt (by omega), nI_toInt (by decide)] at e
      omega
    · rw [if_neg hp] at h; exact absurd h (by decide)
theorem rx_cop {m n p : Nat} {X : Nat → Nat → Int32} {v : Int32} : rx_ m n p X (xu X 25 5 v) := fun b i z => xu_z (by omega)
theorem dr_cop {X : Nat → Nat → Int32} {fs vs : List Nat} {c n : Nat} (h : dr_ X fs vs c) : dr_ (xu X 25 5 (nI (c * n))) fs vs (c * n) := ⟨⟨(xu_i (by decide)).trans h.1.1, (xu_i (by decide)).trans h.1.2.1, (xu_i (by decide)).trans h.1.2.2.1, xu_s⟩, fun i hi => (xu_a (by decide)).trans (h.2.1 i hi), fun i hi => (xu_a (by decide)).trans (h.2.2 i hi)⟩
set_option maxRecDepth 100000 in
set_option maxHeartbeats 4000000 in
theorem cR_divide {l : Launch} {D : va_G} {aa : Nat → ClassId} {b0 : Nat} {h : mm_H} {o : Nat} {X : Nat → Nat → Int32} {Y : Nat → Nat → Int64} {rl : Option Nat} {w : ro_w} {sg a dt : Nat} {E U P H PL RS CO AL LI : Nat → Nat} {t c : Nat} {ts : List gK} {fs vs : List Nat} (ha : cm_at o X Y rl h) (hva : vA a) (hrq : rq_ X w sg a dt E U P H PL RS CO AL LI) (hwf : wf_ (gd_ sg) ts) (hct : ct_ X w sg (gd_ sg) ts t) (ht8 : t < 128) (hdr : dr_ X fs vs c) (hpl : vs.length ≤ 24) (hlv : ro_dot w vs.length = true → vs.length < w.1 ∧ fs.length < 48) : mm_V (zz_K l D aa b0) 1 yX5_divide cX5_divide 6 (some .int) 0 [(0, .ref (o + 3)), (1, .ref (o + (a + 3))), (2, .int (nI (t)))] [] h 0 0 (fun rv h' => ∃ (X' : Nat → Nat → Int32) (t' : Nat), rv = some (.int (nI t')) ∧ cm_at o X' Y rl h' ∧ cm_fr o h h' ∧ (∀ m, rx_ m fs.length vs.length X X') ∧ (∀ b i, b < 25 → X' b i = X b i) ∧ t' ≤ t ∧ ct_ X' w sg (gd_ sg) (dvn ts).2 t' ∧ (ro_dot w vs.length = true → dr_ X' (fs ++ [12]) (vs ++ [0]) (c * (dvn ts).1)) ∧ (ro_dot w vs.length = false → dr_ X' fs vs c)) := by
  have h24 := hrq.2.2.1.1.2
  have hn4 := dvn_le4 hwf
  have hf := cm_fr.rf (o := o) (h := h)
  have en : ∀ (i t' : Nat), t' ≤ t → ct_ X w sg (gd_ sg) (dvn ts).2 t' → mm_V (zz_K l D aa b0) 1 yX5_divide cX5_divide 6 (some .int) 46 [(5, .int (nI (i))), (4, .int (nI ((dvn ts).1))), (3, .int (nI (t'))), (0, .ref (o + 3)), (1, .ref (o + (a + 3))), (2, .int (nI (t)))] [] h 0 0 (fun rv h' => ∃ (X' : Nat → Nat → Int32) (t' : Nat), rv = some (.int (nI t')) ∧ cm_at o X' Y rl h' ∧ cm_fr o h h' ∧ (∀ m, rx_ m fs.length vs.length X X') ∧ (∀ b i, b < 25 → X' b i = X b i) ∧ t' ≤ t ∧ ct_ X' w sg (gd_ sg) (dvn ts).2 t' ∧ (ro_dot w vs.length = true → dr_ X' (fs ++ [12]) (vs ++ [0]) (c * (dvn ts).1)) ∧ (ro_dot w vs.length = false → dr_ X' fs vs c)) := by
    intro i t' hle hct'
    refine mm_aload_n dX5_divide_46 rfl 4 rfl ?_
    refine mm_aload_n dX5_divide_47 rfl 3 rfl ?_
    refine cm_getR (b := 25) dX5_divide_48 ha zr_X5_28 (by decide) rfl rfl rfl ?_
    refine cm_getI dX5_divide_51 ha zr_X5_116 (by decide) rfl rfl ?_
    refine mn_top (u := .int (nI (vs.length))) (congrArg Value.int ((hdr.1.2.2.1))) ?_
    refine cm_callVr (As := [.int (nI (vs.length))]) (rest := []) (d2 := 0) dX5_divide_54 ha (vA_lt hva 3 (by decide)) (vA_3 hva) zz_clX6 zc_X5_264 zs_X6_sortAt rfl rfl (Nat.le_of_ble_eq_true rfl) (Nat.le_of_ble_eq_true rfl) (by decide) (cr_sortAt ha (vr_A hva) hrq.2.2.1.1.1 h24 (by omega)) ?_
    refine mn_top (u := .int (if ro_dot w vs.length = true then nI 3 else (if vs.length < w.1 then nI (w.2.1 vs.length) else (-1)))) (congrArg Value.int (sd_eq hrq.2.2.1)) ?_
    refine mm_iconst (v := nI 3) dX5_divide_57 (by decide) ?_
    refine mm_icmp_ne (tgt := 92) dX5_divide_58 (by decide) (fun c58 => ?_) (fun c58 => ?_)
    · have hnd : ro_dot w vs.length = false := by
        cases hd : ro_dot w vs.length with
        | false => rfl
        | true => rw [if_pos hd] at c58; exact absurd rfl c58
      refine mm_iload_n dX5_divide_92 rfl 2 rfl ?_
      exact mm_iret dX5_divide_93 rfl (⟨X, t', rfl, ha, hf, fun _ => rx_.rf, fun _ _ _ => rfl, hle, hct', (fun z => by rw [hnd] at z; cases z), (fun _ => hdr)⟩)
    · have hd : ro_dot w vs.length = true := sd_dot hrq.2.2.1 c58
      obtain ⟨hp1, hn48⟩ := hlv hd
      refine mm_aload_n dX5_divide_61 rfl 3 rfl ?_
      refine cm_getR (b := 25) dX5_divide_62 ha zr_X5_28 (by decide) rfl rfl rfl ?_
      refine mm_bipush (v := nI 12) dX5_divide_65 (by decide) ?_
      refine cm_callV (As := [.int (nI (12))]) (rest := []) (d2 := 0) dX5_divide_67 ha (by decide) rfl zz_clX1 zc_X5_212 zs_X1_tell rfl rfl (Nat.le_of_ble_eq_true rfl) (Nat.le_of_ble_eq_true rfl) (by decide) (cd_tell ha hdr.1.1 hn48 hdr.1.2.1 (by decide)) (fun r h1 hq => ?_)
      obtain ⟨rfl, ha, hf'⟩ := hq
      have hf := hf.tr hf'
      obtain ⟨X2, ha, hrx, hdr, hlo⟩ := te_pack ha hdr
      refine mm_aload_n dX5_divide_70 rfl 3 rfl ?_
      refine cm_getR (b := 25) dX5_divide_71 ha zr_X5_28 (by decide) rfl rfl rfl ?_
      refine mm_iconst (v := nI 0) dX5_divide_74 (by decide) ?_
      refine cm_callV (As := [.int (nI (0))]) (rest := []) (d2 := 0) dX5_divide_75 ha (by decide) rfl zz_clX1 zc_X5_230 zs_X1_take rfl rfl (Nat.le_of_ble_eq_true rfl) (Nat.le_of_ble_eq_true rfl) (by decide) (cd_take ha hdr.1.2.2.1 (by omega)) (fun r h1 hq => ?_)
      obtain ⟨rfl, ha, hf'⟩ := hq
      have hf := hf.tr hf'
      obtain ⟨X3, ha, hrx2, hdr, hlo2⟩ := tk_pack ha hdr
      refine mm_aload_n dX5_divide_78 rfl 3 rfl ?_
      refine cm_getR (b := 25) dX5_divide_79 ha zr_X5_28 (by decide) rfl rfl rfl ?_
      refine mm_dup dX5_divide_82 rfl ?_
      refine cm_getI dX5_divide_83 ha zr_X5_157 (by decide) rfl rfl ?_
      refine mn_top (u := .int (nI (c))) (congrArg Value.int ((hdr.1.2.2.2))) ?_
      refine mm_iload dX5_divide_86 1 rfl ?_
      refine mn_imul dX5_divide_88 ?_
      refine cm_putI dX5_divide_89 ha hf zp_X5_157 (by decide) rfl rfl rfl rfl (fun h1 ha hf => ?_)
      refine mm_iload_n dX5_divide_92 rfl 2 rfl ?_
      exact mm_iret dX5_divide_93 rfl (⟨_, t', rfl, ha, hf, fun m => ((((hrx m).tr (hrx2 m) (Nat.le_refl _) (by rw [List.length_append]; omega) (Nat.le_refl _))).tr (rx_cop (m := m) (n := fs.length) (p := vs.length)) (Nat.le_refl _) (Nat.le_refl _) (Nat.le_refl _)), fun b i hb => (xu_a (by omega)).trans ((hlo2 b i hb).trans (hlo b i hb)), hle, ct_x hct' (fun b i h1 h2 h3 => (xu_a (by omega)).trans ((hlo2 b i (by omega)).trans (hlo b i (by omega)))), (fun _ => dr_cop hdr), (fun z => by rw [hd] at z; cases z)⟩)
  have lp : ∀ (us : List gK) (i t1 : Nat), (dvn us).1 + i = (dvn ts).1 → (dvn us).2 = (dvn ts).2 → t1 ≤ t → ct_ X w sg (gd_ sg) us t1 → (∀ x ∈ us, 1 ≤ x.1 ∧ x.1 ≤ 7) → mm_V (zz_K l D aa b0) 1 yX5_divide cX5_divide 6 (some .int) 8 [(5, .int (nI (i))), (4, .int (nI (i))), (3, .int (nI (t1))), (0, .ref (o + 3)), (1, .ref (o + (a + 3))), (2, .int (nI (t)))] [] h 0 0 (fun rv h' => ∃ (X' : Nat → Nat → Int32) (t' : Nat), rv = some (.int (nI t')) ∧ cm_at o X' Y rl h' ∧ cm_fr o h h' ∧ (∀ m, rx_ m fs.length vs.length X X') ∧ (∀ b i, b < 25 → X' b i = X b i) ∧ t' ≤ t ∧ ct_ X' w sg (gd_ sg) (dvn ts).2 t' ∧ (ro_dot w vs.length = true → dr_ X' (fs ++ [12]) (vs ++ [0]) (c * (dvn ts).1)) ∧ (ro_dot w vs.length = false → dr_ X' fs vs c)) := by
    intro us
    induction us with
    | nil =>
      intro i t1 hn h2 hle hct1 hs1
      have e0 : t1 = 0 := hct1
      subst e0
      have hn : 0 + i = (dvn ts).1 := hn
      refine mm_iload dX5_divide_8 0 rfl ?_
      refine mm_bipush (v := nI 7) dX5_divide_10 (by decide) ?_
      refine mn_icmp_ge (tgt := 46) dX5_divide_12 (by decide) (by omega) (by omega) (fun c12 => ?_) (fun c12 => ?_)
      · omega
      · refine mm_aload_n dX5_divide_15 rfl 3 rfl ?_
        refine cm_getR (b := 4) dX5_divide_16 ha zr_X5_14 (by decide) rfl rfl rfl ?_
        refine mm_iload_n dX5_divide_19 rfl 2 rfl ?_
        refine cm_callVr (As := [.int (nI (0))]) (rest := []) (d2 := 0) dX5_divide_20 ha (by decide) rfl zz_clX0 zc_X5_112 zs_X0_sortOf rfl rfl (Nat.le_of_ble_eq_true rfl) (Nat.le_of_ble_eq_true rfl) (by decide) (cc_sortOf ha (by omega)) ?_
        refine mn_top (u := .int (nI (0))) (congrArg Value.int (by rw [if_pos (by decide)]; exact hrq.2.1.1)) ?_
        refine mm_bipush (v := nI 6) dX5_divide_23 (by decide) ?_
        refine mn_icmp_ne (tgt := 46) dX5_divide_25 (by decide) (by first | omega | (have := hs1 u List.mem_cons_self; split <;> omega)) (by first | omega | (have := hs1 u List.mem_cons_self; split <;> omega)) (fun c25 => ?_) (fun c25 => ?_)
        · have e1 : i = (dvn ts).1 := by omega
          subst e1
          exact en _ _ (by omega) (by rw [← h2]; exact rfl)
        · exact absurd c25 (by decide)
    | cons u r ih =>
      intro i t1 hn h2 hle hct1 hs1
      have h5 := hct1.2.1
      have ht8 := hct1.1.2
      refine mm_iload dX5_divide_8 0 rfl ?_
      refine mm_bipush (v := nI 7) dX5_divide_10 (by decide) ?_
      refine mn_icmp_ge (tgt := 46) dX5_divide_12 (by decide) (by omega) (by omega) (fun c12 => ?_) (fun c12 => ?_)
      · omega
      · refine mm_aload_n dX5_divide_15 rfl 3 rfl ?_
        refine cm_getR (b := 4) dX5_divide_16 ha zr_X5_14 (by decide) rfl rfl rfl ?_
        refine mm_iload_n dX5_divide_19 rfl 2 rfl ?_
        refine cm_callVr (As := [.int (nI (t1))]) (rest := []) (d2 := 0) dX5_divide_20 ha (by decide) rfl zz_clX0 zc_X5_112 zs_X0_sortOf rfl rfl (Nat.le_of_ble_eq_true rfl) (Nat.le_of_ble_eq_true rfl) (by decide) (cc_sortOf ha (by omega)) ?_
        refine mn_top (u := .int (nI (if u.1 = 7 then 4 else u.1))) (congrArg Value.int (by rw [if_pos ht8]; exact h5)) ?_
        refine mm_bipush (v := nI 6) dX5_divide_23 (by decide) ?_
        refine mn_icmp_ne (tgt := 46) dX5_divide_25 (by decide) (by first | omega | (have := hs1 u List.mem_cons_self; split <;> omega)) (by first | omega | (have := hs1 u List.mem_cons_self; split <;> omega)) (fun c25 => ?_) (fun c25 => ?_)
        · have c6 : ¬ u.1 = 6 := fun z => c25 (by rw [if_neg (by omega)]; exact z)
          have e2 : dvn (u :: r) = (0, u :: r) := by show (if u.1 = 6 then _ else _) = _; rw [if_neg c6]
          rw [e2] at hn h2
          have e1 : i = (dvn ts).1 := by have hn : 0 + i = _ := hn; omega
          subst e1
          exact en _ _ hle (by rw [← h2]; exact hct1)
        · have c6 : u.1 = 6 := by
            by_cases z : u.1 = 7
            · rw [if_pos z] at c25; cases c25
            · rw [if_neg z] at c25; exact c25
          have e2 : dvn (u :: r) = ((dvn r).1 + 1, (dvn r).2) := by show (if u.1 = 6 then _ else _) = _; rw [if_pos c6]
          rw [e2] at hn h2
          have hn : (dvn r).1 + 1 + i = (dvn ts).1 := hn
          obtain ⟨-, -, -, -, -, t2, ht2, h8, hct2⟩ := hct1
          refine mn_iinc (m := 1) (L' := [(4, .int (nI (i + 1))), (5, .int (nI (i))), (3, .int (nI (t1))), (0, .ref (o + 3)), (1, .ref (o + (a + 3))), (2, .int (nI (t)))]) dX5_divide_28 (by decide) 1 rfl (by decide) rfl ?_
          refine mm_aload_n dX5_divide_31 rfl 3 rfl ?_
          refine cm_getR (b := 4) dX5_divide_32 ha zr_X5_14 (by decide) rfl rfl rfl ?_
          refine mm_iload_n dX5_divide_35 rfl 2 rfl ?_
          refine cm_callVr (As := [.int (nI (t1))]) (rest := []) (d2 := 0) dX5_divide_36 ha (by decide) rfl zz_clX0 zc_X5_177 zs_X0_restOf rfl rfl (Nat.le_of_ble_eq_true rfl) (Nat.le_of_ble_eq_true rfl) (by decide) (cc_restOf ha (by omega)) ?_
          refine mn_top (u := .int (nI (t2))) (congrArg Value.int (by rw [if_pos ht8]; exact h8)) ?_
          refine mm_istore_n (L' := [(3, .int (nI (t2))), (4, .int (nI (i + 1))), (5, .int (nI (i))), (0, .ref (o + 3)), (1, .ref (o + (a + 3))), (2, .int (nI (t)))]) dX5_divide_39 rfl (by decide) rfl ?_
          refine mn_iinc (m := 1) (L' := [(5, .int (nI (i + 1))), (3, .int (nI (t2))), (4, .int (nI (i + 1))), (0, .ref (o + 3)), (1, .ref (o + (a + 3))), (2, .int (nI (t)))]) dX5_divide_40 (by decide) 2 rfl (by decide) rfl ?_
          refine mm_goto (tgt := 8) dX5_divide_43 (by decide) ?_
          refine mn_sub [0, 2, 1, 3, 4, 5] rfl ?_
          exact ih (i + 1) t2 (by omega) h2 (by omega) hct2 (fun x hx => hs1 x (List.mem_cons_of_mem _ hx))
  refine mm_iload_n dX5_divide_0 rfl 2 rfl ?_
  refine mm_istore_n (L' := [(3, .int (nI (t))), (0, .ref (o + 3)), (1, .ref (o + (a + 3))), (2, .int (nI (t)))]) dX5_divide_1 rfl (by decide) rfl ?_
  refine mm_iconst (v := nI 0) dX5_divide_2 (by decide) ?_
  refine mm_istore (L' := [(4, .int (nI (0))), (3, .int (nI (t))), (0, .ref (o + 3)), (1, .ref (o + (a + 3))), (2, .int (nI (t)))]) dX5_divide_3 (by decide) rfl ?_
  refine mm_iconst (v := nI 0) dX5_divide_5 (by decide) ?_
  refine mm_istore (L' := [(5, .int (nI (0))), (4, .int (nI (0))), (3, .int (nI (t))), (0, .ref (o + 3)), (1, .ref (o + (a + 3))), (2, .int (nI (t)))]) dX5_divide_6 (by decide) rfl ?_
  refine mn_sub [0, 1, 2, 3, 4, 5] rfl ?_
  exact lp ts 0 t (Nat.add_zero _) rfl (Nat.le_refl _) hct (wf_s hwf)
