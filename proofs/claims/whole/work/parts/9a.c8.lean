/-! the chain of tasks: one task more -/
set_option maxRecDepth 100000 in
set_option maxHeartbeats 4000000 in
theorem cc_unit {l : Launch} {D : va_G} {aa : Nat → ClassId} {b0 : Nat} {h : mm_H} {o : Nat} {X : Nat → Nat → Int32} {Y : Nat → Nat → Int64} {rl : Option Nat} {w : ro_w} {sg a dt : Nat} {E U P H PL RS CO AL LI : Nat → Nat} {m t k : Nat} {r : List gK} (ha : cm_at o X Y rl h) (hva : vA a) (hrq : rq_ X w sg a dt E U P H PL RS CO AL LI) (hm : X 4 6 = nI m) (hm8 : m < 128) (hct : ct_ X w sg (gd_ sg) r t) (htm : t < m) (hg : (gd_ sg) ≤ k) (hk : k ≤ 6) : mm_V (zz_K l D aa b0) 1 yX0_unit cX0_unit 3 (some .int) 0 [(0, .ref (o + 4)), (1, .int (nI (k))), (2, .int (nI (t)))] [] h 0 0 (fun rv h' => ∃ X' : Nat → Nat → Int32, rv = some (.int (nI m)) ∧ cm_at o X' Y rl h' ∧ cm_fr o h h' ∧ pq_ m X X' ∧ X' 4 6 = nI (m + 1) ∧ ct_ X' w sg (gd_ sg) ((1, k, 0) :: r) m) := by
  have hf := cm_fr.rf (o := o) (h := h)
  obtain ⟨ht8, M, hM, hmp⟩ := ct_M hrq.2.1 hct
  have hM27 := hmp.1
  refine mm_aload_n dX0_unit_0 rfl 0 rfl ?_
  refine mm_iconst (v := nI 1) dX0_unit_1 (by decide) ?_
  refine mm_iload_n dX0_unit_2 rfl 1 rfl ?_
  refine mm_iconst (v := nI 0) dX0_unit_3 (by decide) ?_
  refine mm_iload_n dX0_unit_4 rfl 2 rfl ?_
  refine mm_aload_n dX0_unit_5 rfl 0 rfl ?_
  refine cm_getR (b := 10) dX0_unit_6 ha zr_X0_28 (by decide) rfl rfl rfl ?_
  refine mm_aload_n dX0_unit_9 rfl 0 rfl ?_
  refine cm_getR (b := 10) dX0_unit_10 ha zr_X0_28 (by decide) rfl rfl rfl ?_
  refine cm_getR (b := 12) dX0_unit_13 ha zr_X0_43 (by decide) rfl rfl rfl ?_
  refine mm_iload_n dX0_unit_16 rfl 1 rfl ?_
  refine mm_aload_n dX0_unit_17 rfl 0 rfl ?_
  refine mm_iload_n dX0_unit_18 rfl 2 rfl ?_
  refine cm_callVr (As := [.int (nI (t))]) (rest := [.int (nI (k)), .ref (o + 12), .ref (o + 10), .int (nI (t)), .int (nI (0)), .int (nI (k)), .int (nI (1)), .ref (o + 4)]) (d2 := 0) dX0_unit_19 ha (by decide) rfl zz_clX0 zc_X0_46 zs_X0_placesOf rfl rfl (Nat.le_of_ble_eq_true rfl) (Nat.le_of_ble_eq_true rfl) (by decide) (cc_placesOf ha (by omega)) ?_
  refine mn_top (u := .int (nI (M))) (congrArg Value.int (by rw [if_pos ht8]; exact hM)) ?_
  refine cm_callVr (As := [.ref (o + 12), .int (nI (k)), .int (nI (M))]) (rest := [.int (nI (t)), .int (nI (0)), .int (nI (k)), .int (nI (1)), .ref (o + 4)]) (d2 := 0) dX0_unit_22 ha (by decide) rfl zz_clX7 zc_X0_50 zs_X7_before rfl rfl (Nat.le_of_ble_eq_true rfl) (Nat.le_of_ble_eq_true rfl) (by decide) (cs_before ha (Or.inl rfl) hrq.1.1.2.1.2.1 hrq.1.1.1.1.1 hrq.1.1.1.1.2 hk (by omega)) ?_
  refine cm_callV (As := [.int (nI (1)), .int (nI (k)), .int (nI (0)), .int (nI (t)), .int (nI (bef_ U (k * 27) M w.1))]) (rest := []) (d2 := 0) dX0_unit_25 ha (by decide) rfl zz_clX0 zc_X0_39 zs_X0_push rfl rfl (Nat.le_of_ble_eq_true rfl) (Nat.le_of_ble_eq_true rfl) (by decide) (cc_push ha hm hm8) (fun r h1 hq => ?_)
  obtain ⟨rfl, ha, hf'⟩ := hq
  have hf := hf.tr hf'
  exact mm_iret dX0_unit_28 rfl (⟨_, rfl, ha, hf, pu_pq, xu_s, pu_ct (u := (1, k, 0)) hct htm hm8 (fun _ => rfl) (fun z => by omega) (mp_unit hrq.1 hmp hg hk)⟩)
set_option maxRecDepth 100000 in
set_option maxHeartbeats 4000000 in
theorem cc_pair {l : Launch} {D : va_G} {aa : Nat → ClassId} {b0 : Nat} {h : mm_H} {o : Nat} {X : Nat → Nat → Int32} {Y : Nat → Nat → Int64} {rl : Option Nat} {w : ro_w} {sg a dt : Nat} {E U P H PL RS CO AL LI : Nat → Nat} {m t k : Nat} {r : List gK} (ha : cm_at o X Y rl h) (hva : vA a) (hrq : rq_ X w sg a dt E U P H PL RS CO AL LI) (hm : X 4 6 = nI m) (hm8 : m < 128) (hct : ct_ X w sg (gd_ sg) r t) (htm : t < m) (hg : (gd_ sg) ≤ k) (hk : k ≤ 6) : mm_V (zz_K l D aa b0) 1 yX0_pair cX0_pair 3 (some .int) 0 [(0, .ref (o + 4)), (1, .int (nI (k))), (2, .int (nI (t)))] [] h 0 0 (fun rv h' => ∃ X' : Nat → Nat → Int32, rv = some (.int (nI m)) ∧ cm_at o X' Y rl h' ∧ cm_fr o h h' ∧ pq_ m X X' ∧ X' 4 6 = nI (m + 1) ∧ ct_ X' w sg (gd_ sg) ((2, k, 0) :: r) m) := by
  have hf := cm_fr.rf (o := o) (h := h)
  obtain ⟨ht8, M, hM, hmp⟩ := ct_M hrq.2.1 hct
  have hM27 := hmp.1
  refine mm_aload_n dX0_pair_0 rfl 0 rfl ?_
  refine mm_iconst (v := nI 2) dX0_pair_1 (by decide) ?_
  refine mm_iload_n dX0_pair_2 rfl 1 rfl ?_
  refine mm_iconst (v := nI 0) dX0_pair_3 (by decide) ?_
  refine mm_iload_n dX0_pair_4 rfl 2 rfl ?_
  refine mm_aload_n dX0_pair_5 rfl 0 rfl ?_
  refine cm_getR (b := 10) dX0_pair_6 ha zr_X0_28 (by decide) rfl rfl rfl ?_
  refine mm_aload_n dX0_pair_9 rfl 0 rfl ?_
  refine cm_getR (b := 10) dX0_pair_10 ha zr_X0_28 (by decide) rfl rfl rfl ?_
  refine cm_getR (b := 13) dX0_pair_13 ha zr_X0_54 (by decide) rfl rfl rfl ?_
  refine mm_iload_n dX0_pair_16 rfl 1 rfl ?_
  refine mm_aload_n dX0_pair_17 rfl 0 rfl ?_
  refine mm_iload_n dX0_pair_18 rfl 2 rfl ?_
  refine cm_callVr (As := [.int (nI (t))]) (rest := [.int (nI (k)), .ref (o + 13), .ref (o + 10), .int (nI (t)), .int (nI (0)), .int (nI (k)), .int (nI (2)), .ref (o + 4)]) (d2 := 0) dX0_pair_19 ha (by decide) rfl zz_clX0 zc_X0_46 zs_X0_placesOf rfl rfl (Nat.le_of_ble_eq_true rfl) (Nat.le_of_ble_eq_true rfl) (by decide) (cc_placesOf ha (by omega)) ?_
  refine mn_top (u := .int (nI (M))) (congrArg Value.int (by rw [if_pos ht8]; exact hM)) ?_
  refine cm_callVr (As := [.ref (o + 13), .int (nI (k)), .int (nI (M))]) (rest := [.int (nI (t)), .int (nI (0)), .int (nI (k)), .int (nI (2)), .ref (o + 4)]) (d2 := 0) dX0_pair_22 ha (by decide) rfl zz_clX7 zc_X0_50 zs_X7_before rfl rfl (Nat.le_of_ble_eq_true rfl) (Nat.le_of_ble_eq_true rfl) (by decide) (cs_before ha (Or.inr (Or.inl rfl)) hrq.1.1.2.1.2.2.1 hrq.1.1.1.1.1 hrq.1.1.1.1.2 hk (by omega)) ?_
  refine cm_callV (As := [.int (nI (2)), .int (nI (k)), .int (nI (0)), .int (nI (t)), .int (nI (bef_ P (k * 27) M w.1))]) (rest := []) (d2 := 0) dX0_pair_25 ha (by decide) rfl zz_clX0 zc_X0_39 zs_X0_push rfl rfl (Nat.le_of_ble_eq_true rfl) (Nat.le_of_ble_eq_true rfl) (by decide) (cc_push ha hm hm8) (fun r h1 hq => ?_)
  obtain ⟨rfl, ha, hf'⟩ := hq
  have hf := hf.tr hf'
  exact mm_iret dX0_pair_28 rfl (⟨_, rfl, ha, hf, pu_pq, xu_s, pu_ct (u := (2, k, 0)) hct htm hm8 (fun _ => rfl) (fun z => by omega) (mp_pair hrq.1 hmp hg hk)⟩)
set_option maxRecDepth 100000 in
set_option maxHeartbeats 4000000 in
theorem cc_third {l : Launch} {D : va_G} {aa : Nat → ClassId} {b0 : Nat} {h : mm_H} {o : Nat} {X : Nat → Nat → Int32} {Y : Nat → Nat → Int64} {rl : Option Nat} {w : ro_w} {sg a dt : Nat} {E U P H PL RS CO AL LI : Nat → Nat} {m t k : Nat} {r : List gK} (ha : cm_at o X Y rl h) (hva : vA a) (hrq : rq_ X w sg a dt E U P H PL RS CO AL LI) (hm : X 4 6 = nI m) (hm8 : m < 128) (hct : ct_ X w sg (gd_ sg) r t) (htm : t < m) (hk : k ≤ 6) : mm_V (zz_K l D aa b0) 1 yX0_third cX0_third 3 (some .int) 0 [(0, .ref (o + 4)), (1, .int (nI (k))), (2, .int (nI (t)))] [] h 0 0 (fun rv h' => ∃ X' : Nat → Nat → Int32, rv = some (.int (nI m)) ∧ cm_at o X' Y rl h' ∧ cm_fr o h h' ∧ pq_ m X X' ∧ X' 4 6 = nI (m + 1) ∧ ct_ X' w sg (gd_ sg) ((3, k, 0) :: r) m) := by
  have hf := cm_fr.rf (o := o) (h := h)
  obtain ⟨ht8, M, hM, hmp⟩ := ct_M hrq.2.1 hct
  have hM27 := hmp.1
  refine mm_aload_n dX0_third_0 rfl 0 rfl ?_
  refine mm_iconst (v := nI 3) dX0_third_1 (by decide) ?_
  refine mm_iload_n dX0_third_2 rfl 1 rfl ?_
  refine mm_iconst (v := nI 0) dX0_third_3 (by decide) ?_
  refine mm_iload_n dX0_third_4 rfl 2 rfl ?_
  refine mm_aload_n dX0_third_5 rfl 0 rfl ?_
  refine cm_getR (b := 10) dX0_third_6 ha zr_X0_28 (by decide) rfl rfl rfl ?_
  refine mm_aload_n dX0_third_9 rfl 0 rfl ?_
  refine cm_getR (b := 10) dX0_third_10 ha zr_X0_28 (by decide) rfl rfl rfl ?_
  refine cm_getR (b := 14) dX0_third_13 ha zr_X0_57 (by decide) rfl rfl rfl ?_
  refine mm_iload_n dX0_third_16 rfl 1 rfl ?_
  refine mm_aload_n dX0_third_17 rfl 0 rfl ?_
  refine mm_iload_n dX0_third_18 rfl 2 rfl ?_
  refine cm_callVr (As := [.int (nI (t))]) (rest := [.int (nI (k)), .ref (o + 14), .ref (o + 10), .int (nI (t)), .int (nI (0)), .int (nI (k)), .int (nI (3)), .ref (o + 4)]) (d2 := 0) dX0_third_19 ha (by decide) rfl zz_clX0 zc_X0_46 zs_X0_placesOf rfl rfl (Nat.le_of_ble_eq_true rfl) (Nat.le_of_ble_eq_true rfl) (by decide) (cc_placesOf ha (by omega)) ?_
  refine mn_top (u := .int (nI (M))) (congrArg Value.int (by rw [if_pos ht8]; exact hM)) ?_
  refine cm_callVr (As := [.ref (o + 14), .int (nI (k)), .int (nI (M))]) (rest := [.int (nI (t)), .int (nI (0)), .int (nI (k)), .int (nI (3)), .ref (o + 4)]) (d2 := 0) dX0_third_22 ha (by decide) rfl zz_clX7 zc_X0_50 zs_X7_before rfl rfl (Nat.le_of_ble_eq_true rfl) (Nat.le_of_ble_eq_true rfl) (by decide) (cs_before ha (Or.inr (Or.inr rfl)) hrq.1.1.2.1.2.2.2 hrq.1.1.1.1.1 hrq.1.1.1.1.2 hk (by omega)) ?_
  refine cm_callV (As := [.int (nI (3)), .int (nI (k)), .int (nI (0)), .int (nI (t)), .int (nI (bef_ H (k * 27) M w.1))]) (rest := []) (d2 := 0) dX0_third_25 ha (by decide) rfl zz_clX0 zc_X0_39 zs_X0_push rfl rfl (Nat.le_of_ble_eq_true rfl) (Nat.le_of_ble_eq_true rfl) (by decide) (cc_push ha hm hm8) (fun r h1 hq => ?_)
  obtain ⟨rfl, ha, hf'⟩ := hq
  have hf := hf.tr hf'
  exact mm_iret dX0_third_28 rfl (⟨_, rfl, ha, hf, pu_pq, xu_s, pu_ct (u := (3, k, 0)) hct htm hm8 (fun _ => rfl) (fun z => by omega) (mp_third hrq.1 hmp hk)⟩)
set_option maxRecDepth 100000 in
set_option maxHeartbeats 4000000 in
theorem cc_take {l : Launch} {D : va_G} {aa : Nat → ClassId} {b0 : Nat} {h : mm_H} {o : Nat} {X : Nat → Nat → Int32} {Y : Nat → Nat → Int64} {rl : Option Nat} {w : ro_w} {sg a dt : Nat} {E U P H PL RS CO AL LI : Nat → Nat} {m t k : Nat} {r : List gK} {v : Nat} (ha : cm_at o X Y rl h) (hva : vA a) (hrq : rq_ X w sg a dt E U P H PL RS CO AL LI) (hm : X 4 6 = nI m) (hm8 : m < 128) (hct : ct_ X w sg (gd_ sg) r t) (htm : t < m) (hk : k ≤ 6) : mm_V (zz_K l D aa b0) 1 yX0_take cX0_take 4 (some .int) 0 [(0, .ref (o + 4)), (1, .int (nI (AL k))), (2, .int (nI (v))), (3, .int (nI (t)))] [] h 0 0 (fun rv h' => ∃ X' : Nat → Nat → Int32, rv = some (.int (nI m)) ∧ cm_at o X' Y rl h' ∧ cm_fr o h h' ∧ pq_ m X X' ∧ X' 4 6 = nI (m + 1) ∧ ct_ X' w sg (gd_ sg) ((4, k, v) :: r) m) := by
  have hf := cm_fr.rf (o := o) (h := h)
  obtain ⟨ht8, M, hM, hmp⟩ := ct_M hrq.2.1 hct
  have hM27 := hmp.1
  refine mm_aload_n dX0_take_0 rfl 0 rfl ?_
  refine mm_iconst (v := nI 4) dX0_take_1 (by decide) ?_
  refine mm_iconst (v := nI 0) dX0_take_2 (by decide) ?_
  refine mm_iload_n dX0_take_3 rfl 2 rfl ?_
  refine mm_iload_n dX0_take_4 rfl 3 rfl ?_
  refine mm_aload_n dX0_take_5 rfl 0 rfl ?_
  refine mm_iload_n dX0_take_6 rfl 3 rfl ?_
  refine cm_callVr (As := [.int (nI (t))]) (rest := [.int (nI (t)), .int (nI (v)), .int (nI (0)), .int (nI (4)), .ref (o + 4)]) (d2 := 0) dX0_take_7 ha (by decide) rfl zz_clX0 zc_X0_46 zs_X0_placesOf rfl rfl (Nat.le_of_ble_eq_true rfl) (Nat.le_of_ble_eq_true rfl) (by decide) (cc_placesOf ha (by omega)) ?_
  refine mn_top (u := .int (nI (M))) (congrArg Value.int (by rw [if_pos ht8]; exact hM)) ?_
  refine mm_iconst (v := nI 1) dX0_take_10 (by decide) ?_
  refine mn_ishr dX0_take_11 (by omega) (by omega) ?_
  refine mm_iload_n dX0_take_12 rfl 1 rfl ?_
  refine mn_iand dX0_take_13 ?_
  refine cm_callV (As := [.int (nI (4)), .int (nI (0)), .int (nI (v)), .int (nI (t)), .int (nI (((M) >>> (1)) &&& (AL k)))]) (rest := []) (d2 := 0) dX0_take_14 ha (by decide) rfl zz_clX0 zc_X0_39 zs_X0_push rfl rfl (Nat.le_of_ble_eq_true rfl) (Nat.le_of_ble_eq_true rfl) (by decide) (cc_push ha hm hm8) (fun r h1 hq => ?_)
  obtain ⟨rfl, ha, hf'⟩ := hq
  have hf := hf.tr hf'
  exact mm_iret dX0_take_17 rfl (⟨_, rfl, ha, hf, pu_pq, xu_s, pu_ct (u := (4, k, v)) hct htm hm8 (fun z => by omega) (fun _ => rfl) (mp_take hrq.1 hmp hk)⟩)
set_option maxRecDepth 100000 in
set_option maxHeartbeats 4000000 in
theorem cc_late {l : Launch} {D : va_G} {aa : Nat → ClassId} {b0 : Nat} {h : mm_H} {o : Nat} {X : Nat → Nat → Int32} {Y : Nat → Nat → Int64} {rl : Option Nat} {w : ro_w} {sg a dt : Nat} {E U P H PL RS CO AL LI : Nat → Nat} {m t k : Nat} {r : List gK} {v : Nat} (ha : cm_at o X Y rl h) (hva : vA a) (hrq : rq_ X w sg a dt E U P H PL RS CO AL LI) (hm : X 4 6 = nI m) (hm8 : m < 128) (hct : ct_ X w sg (gd_ sg) r t) (htm : t < m) (hk : k ≤ 6) : mm_V (zz_K l D aa b0) 1 yX0_take cX0_take 4 (some .int) 0 [(0, .ref (o + 4)), (1, .int (nI (LI k))), (2, .int (nI (v))), (3, .int (nI (t)))] [] h 0 0 (fun rv h' => ∃ X' : Nat → Nat → Int32, rv = some (.int (nI m)) ∧ cm_at o X' Y rl h' ∧ cm_fr o h h' ∧ pq_ m X X' ∧ X' 4 6 = nI (m + 1) ∧ ct_ X' w sg (gd_ sg) ((7, k, v) :: r) m) := by
  have hf := cm_fr.rf (o := o) (h := h)
  obtain ⟨ht8, M, hM, hmp⟩ := ct_M hrq.2.1 hct
  have hM27 := hmp.1
  refine mm_aload_n dX0_take_0 rfl 0 rfl ?_
  refine mm_iconst (v := nI 4) dX0_take_1 (by decide) ?_
  refine mm_iconst (v := nI 0) dX0_take_2 (by decide) ?_
  refine mm_iload_n dX0_take_3 rfl 2 rfl ?_
  refine mm_iload_n dX0_take_4 rfl 3 rfl ?_
  refine mm_aload_n dX0_take_5 rfl 0 rfl ?_
  refine mm_iload_n dX0_take_6 rfl 3 rfl ?_
  refine cm_callVr (As := [.int (nI (t))]) (rest := [.int (nI (t)), .int (nI (v)), .int (nI (0)), .int (nI (4)), .ref (o + 4)]) (d2 := 0) dX0_take_7 ha (by decide) rfl zz_clX0 zc_X0_46 zs_X0_placesOf rfl rfl (Nat.le_of_ble_eq_true rfl) (Nat.le_of_ble_eq_true rfl) (by decide) (cc_placesOf ha (by omega)) ?_
  refine mn_top (u := .int (nI (M))) (congrArg Value.int (by rw [if_pos ht8]; exact hM)) ?_
  refine mm_iconst (v := nI 1) dX0_take_10 (by decide) ?_
  refine mn_ishr dX0_take_11 (by omega) (by omega) ?_
  refine mm_iload_n dX0_take_12 rfl 1 rfl ?_
  refine mn_iand dX0_take_13 ?_
  refine cm_callV (As := [.int (nI (4)), .int (nI (0)), .int (nI (v)), .int (nI (t)), .int (nI (((M) >>> (1)) &&& (LI k)))]) (rest := []) (d2 := 0) dX0_take_14 ha (by decide) rfl zz_clX0 zc_X0_39 zs_X0_push rfl rfl (Nat.le_of_ble_eq_true rfl) (Nat.le_of_ble_eq_true rfl) (by decide) (cc_push ha hm hm8) (fun r h1 hq => ?_)
  obtain ⟨rfl, ha, hf'⟩ := hq
  have hf := hf.tr hf'
  exact mm_iret dX0_take_17 rfl (⟨_, rfl, ha, hf, pu_pq, xu_s, pu_ct (u := (7, k, v)) hct htm hm8 (fun z => by omega) (fun _ => rfl) (mp_late hrq.1 hmp hk)⟩)
set_option maxRecDepth 100000 in
set_option maxHeartbeats 4000000 in
theorem cc_takeDotted {l : Launch} {D : va_G} {aa : Nat → ClassId} {b0 : Nat} {h : mm_H} {o : Nat} {X : Nat → Nat → Int32} {Y : Nat → Nat → Int64} {rl : Option Nat} {w : ro_w} {sg a dt : Nat} {E U P H PL RS CO AL LI : Nat → Nat} {m t k : Nat} {r : List gK} {v : Nat} (ha : cm_at o X Y rl h) (hva : vA a) (hrq : rq_ X w sg a dt E U P H PL RS CO AL LI) (hm : X 4 6 = nI m) (hm8 : m < 128) (hct : ct_ X w sg (gd_ sg) r t) (htm : t < m) (hk : k ≤ 6) : mm_V (zz_K l D aa b0) 1 yX0_takeDotted cX0_takeDotted 4 (some .int) 0 [(0, .ref (o + 4)), (1, .int (nI (PL k &&& dt >>> 1))), (2, .int (nI (v))), (3, .int (nI (t)))] [] h 0 0 (fun rv h' => ∃ X' : Nat → Nat → Int32, rv = some (.int (nI m)) ∧ cm_at o X' Y rl h' ∧ cm_fr o h h' ∧ pq_ m X X' ∧ X' 4 6 = nI (m + 1) ∧ ct_ X' w sg (gd_ sg) ((5, k, v) :: r) m) := by
  have hf := cm_fr.rf (o := o) (h := h)
  obtain ⟨ht8, M, hM, hmp⟩ := ct_M hrq.2.1 hct
  have hM27 := hmp.1
  refine mm_aload_n dX0_takeDotted_0 rfl 0 rfl ?_
  refine mm_iconst (v := nI 5) dX0_takeDotted_1 (by decide) ?_
  refine mm_iconst (v := nI 0) dX0_takeDotted_2 (by decide) ?_
  refine mm_iload_n dX0_takeDotted_3 rfl 2 rfl ?_
  refine mm_iload_n dX0_takeDotted_4 rfl 3 rfl ?_
  refine mm_aload_n dX0_takeDotted_5 rfl 0 rfl ?_
  refine mm_iload_n dX0_takeDotted_6 rfl 3 rfl ?_
  refine cm_callVr (As := [.int (nI (t))]) (rest := [.int (nI (t)), .int (nI (v)), .int (nI (0)), .int (nI (5)), .ref (o + 4)]) (d2 := 0) dX0_takeDotted_7 ha (by decide) rfl zz_clX0 zc_X0_46 zs_X0_placesOf rfl rfl (Nat.le_of_ble_eq_true rfl) (Nat.le_of_ble_eq_true rfl) (by decide) (cc_placesOf ha (by omega)) ?_
  refine mn_top (u := .int (nI (M))) (congrArg Value.int (by rw [if_pos ht8]; exact hM)) ?_
  refine mm_iconst (v := nI 2) dX0_takeDotted_10 (by decide) ?_
  refine mn_ishr dX0_takeDotted_11 (by omega) (by omega) ?_
  refine mm_iload_n dX0_takeDotted_12 rfl 1 rfl ?_
  refine mn_iand dX0_takeDotted_13 ?_
  refine cm_callV (As := [.int (nI (5)), .int (nI (0)), .int (nI (v)), .int (nI (t)), .int (nI (((M) >>> (2)) &&& (PL k &&& dt >>> 1)))]) (rest := []) (d2 := 0) dX0_takeDotted_14 ha (by decide) rfl zz_clX0 zc_X0_39 zs_X0_push rfl rfl (Nat.le_of_ble_eq_true rfl) (Nat.le_of_ble_eq_true rfl) (by decide) (cc_push ha hm hm8) (fun r h1 hq => ?_)
  obtain ⟨rfl, ha, hf'⟩ := hq
  have hf := hf.tr hf'
  exact mm_iret dX0_takeDotted_17 rfl (⟨_, rfl, ha, hf, pu_pq, xu_s, pu_ct (u := (5, k, v)) hct htm hm8 (fun z => by omega) (fun _ => rfl) (mp_dotted hrq.1 hmp hk)⟩)
set_option maxRecDepth 100000 in
set_option maxHeartbeats 4000000 in
theorem cc_divide {l : Launch} {D : va_G} {aa : Nat → ClassId} {b0 : Nat} {h : mm_H} {o : Nat} {X : Nat → Nat → Int32} {Y : Nat → Nat → Int64} {rl : Option Nat} {w : ro_w} {sg a dt : Nat} {E U P H PL RS CO AL LI : Nat → Nat} {m t k : Nat} {r : List gK} (ha : cm_at o X Y rl h) (hva : vA a) (hrq : rq_ X w sg a dt E U P H PL RS CO AL LI) (hm : X 4 6 = nI m) (hm8 : m < 128) (hct : ct_ X w sg (gd_ sg) r t) (htm : t < m) : mm_V (zz_K l D aa b0) 1 yX0_divide cX0_divide 2 (some .int) 0 [(0, .ref (o + 4)), (1, .int (nI (t)))] [] h 0 0 (fun rv h' => ∃ X' : Nat → Nat → Int32, rv = some (.int (nI m)) ∧ cm_at o X' Y rl h' ∧ cm_fr o h h' ∧ pq_ m X X' ∧ X' 4 6 = nI (m + 1) ∧ ct_ X' w sg (gd_ sg) ((6, k, 0) :: r) m) := by
  have hf := cm_fr.rf (o := o) (h := h)
  obtain ⟨ht8, M, hM, hmp⟩ := ct_M hrq.2.1 hct
  have hM27 := hmp.1
  refine mm_aload_n dX0_divide_0 rfl 0 rfl ?_
  refine mm_bipush (v := nI 6) dX0_divide_1 (by decide) ?_
  refine mm_iconst (v := nI 0) dX0_divide_3 (by decide) ?_
  refine mm_iconst (v := nI 0) dX0_divide_4 (by decide) ?_
  refine mm_iload_n dX0_divide_5 rfl 1 rfl ?_
  refine mm_aload_n dX0_divide_6 rfl 0 rfl ?_
  refine mm_iload_n dX0_divide_7 rfl 1 rfl ?_
  refine cm_callVr (As := [.int (nI (t))]) (rest := [.int (nI (t)), .int (nI (0)), .int (nI (0)), .int (nI (6)), .ref (o + 4)]) (d2 := 0) dX0_divide_8 ha (by decide) rfl zz_clX0 zc_X0_46 zs_X0_placesOf rfl rfl (Nat.le_of_ble_eq_true rfl) (Nat.le_of_ble_eq_true rfl) (by decide) (cc_placesOf ha (by omega)) ?_
  refine mn_top (u := .int (nI (M))) (congrArg Value.int (by rw [if_pos ht8]; exact hM)) ?_
  refine mm_aload_n dX0_divide_11 rfl 0 rfl ?_
  refine mm_iload_n dX0_divide_12 rfl 1 rfl ?_
  refine cm_callVr (As := [.int (nI (t))]) (rest := [.int (nI (M)), .int (nI (t)), .int (nI (0)), .int (nI (0)), .int (nI (6)), .ref (o + 4)]) (d2 := 0) dX0_divide_13 ha (by decide) rfl zz_clX0 zc_X0_46 zs_X0_placesOf rfl rfl (Nat.le_of_ble_eq_true rfl) (Nat.le_of_ble_eq_true rfl) (by decide) (cc_placesOf ha (by omega)) ?_
  refine mn_top (u := .int (nI (M))) (congrArg Value.int (by rw [if_pos ht8]; exact hM)) ?_
  refine mm_iconst (v := nI 1) dX0_divide_16 (by decide) ?_
  refine mn_ishr dX0_divide_17 (by omega) (by omega) ?_
  refine mm_aload_n dX0_divide_18 rfl 0 rfl ?_
  refine cm_getR (b := 10) dX0_divide_19 ha zr_X0_28 (by decide) rfl rfl rfl ?_
  refine cm_getI dX0_divide_22 ha zr_X0_60 (by decide) rfl rfl ?_
  refine mn_top (u := .int (nI (dt))) (congrArg Value.int ((hrq.1.1.1.2.1))) ?_
  refine mn_iand dX0_divide_25 ?_
  refine mn_ior dX0_divide_26 ?_
  refine cm_callV (As := [.int (nI (6)), .int (nI (0)), .int (nI (0)), .int (nI (t)), .int (nI ((M) ||| (((M) >>> (1)) &&& (dt))))]) (rest := []) (d2 := 0) dX0_divide_27 ha (by decide) rfl zz_clX0 zc_X0_39 zs_X0_push rfl rfl (Nat.le_of_ble_eq_true rfl) (Nat.le_of_ble_eq_true rfl) (by decide) (cc_push ha hm hm8) (fun r h1 hq => ?_)
  obtain ⟨rfl, ha, hf'⟩ := hq
  have hf := hf.tr hf'
  exact mm_iret dX0_divide_30 rfl (⟨_, rfl, ha, hf, pu_pq, xu_s, pu_ct (u := (6, k, 0)) hct htm hm8 (fun z => by omega) (fun z => by omega) (mp_div hrq.1 hmp)⟩)
set_option maxRecDepth 100000 in
set_option maxHeartbeats 4000000 in
theorem cc_begin {l : Launch} {D : va_G} {aa : Nat → ClassId} {b0 : Nat} {h : mm_H} {o : Nat} {X : Nat → Nat → Int32} {Y : Nat → Nat → Int64} {rl : Option Nat} {M : Nat} (ha : cm_at o X Y rl h) (hM : X 10 11 = nI M) : mm_V (zz_K l D aa b0) 1 yX0_begin cX0_begin 1 none 0 [(0, .ref (o + 4))] [] h 0 0 (fun rv h' => rv = none ∧ cm_at o (pu_ (xu X 4 6 (nI 0)) 0 (nI 0) (nI 0) (nI 0) (nI 0) (nI M)) Y rl h' ∧ cm_fr o h h') := by
  have hf := cm_fr.rf (o := o) (h := h)
  refine mm_aload_n dX0_begin_0 rfl 0 rfl ?_
  refine mm_iconst (v := nI 0) dX0_begin_1 (by decide) ?_
  refine cm_putI dX0_begin_2 ha hf zp_X0_32 (by decide) rfl rfl rfl rfl (fun h ha hf => ?_)
  refine mm_aload_n dX0_begin_5 rfl 0 rfl ?_
  refine mm_iconst (v := nI 0) dX0_begin_6 (by decide) ?_
  refine mm_iconst (v := nI 0) dX0_begin_7 (by decide) ?_
  refine mm_iconst (v := nI 0) dX0_begin_8 (by decide) ?_
  refine mm_iconst (v := nI 0) dX0_begin_9 (by decide) ?_
  refine mm_aload_n dX0_begin_10 rfl 0 rfl ?_
  refine cm_getR (b := 10) dX0_begin_11 ha zr_X0_28 (by decide) rfl rfl rfl ?_
  refine cm_getI dX0_begin_14 ha zr_X0_36 (by decide) rfl rfl ?_
  refine mn_top (u := .int (nI (M))) (congrArg Value.int (Eq.trans (xu_a (by decide)) ((hM)))) ?_
  refine cm_callV (As := [.int (nI (0)), .int (nI (0)), .int (nI (0)), .int (nI (0)), .int (nI (M))]) (rest := []) (d2 := 0) dX0_begin_17 ha (by decide) rfl zz_clX0 zc_X0_39 zs_X0_push rfl rfl (Nat.le_of_ble_eq_true rfl) (Nat.le_of_ble_eq_true rfl) (by decide) (cc_push ha (m := 0) xu_s (by decide)) (fun r h1 hq => ?_)
  obtain ⟨rfl, ha, hf'⟩ := hq
  have hf := hf.tr hf'
  refine mm_pop dX0_begin_20 rfl ?_
  exact mm_vret dX0_begin_21 rfl (⟨rfl, ha, hf⟩)
