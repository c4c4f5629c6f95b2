/-! Reader: the parts of a form -/
theorem dr_dot {X : Nat → Nat → Int32} {fs vs : List Nat} {c v : Nat} (h : dr_ X fs vs c) : dr_ (xu (xu (xu (xu X 27 vs.length (nI v)) 25 4 (nI (vs.length + 1))) 27 (vs.length + 1) (nI 0)) 25 4 (nI (vs.length + 1 + 1))) fs (vs ++ [v, 0]) c := by
  have h1 := dr_take (v := 0) (dr_take (v := v) h)
  rw [List.length_append, List.append_assoc] at h1
  exact h1
theorem rx_dot {m n p : Nat} {X : Nat → Nat → Int32} {v u v' u' : Int32} : rx_ m n p X (xu (xu (xu (xu X 27 p v) 25 4 u) 27 (p + 1) v') 25 4 u') := fun b i z => by rw [xu_z (by omega), xu_z (by omega), xu_z (by omega), xu_z (by omega)]
theorem tk_pack {o : Nat} {X : Nat → Nat → Int32} {Y : Nat → Nat → Int64} {rl : Option Nat} {h : mm_H} {fs vs : List Nat} {c v : Nat} (ha : cm_at o (xu (xu X 27 vs.length (nI v)) 25 4 (nI (vs.length + 1))) Y rl h) (hdr : dr_ X fs vs c) : ∃ X2, cm_at o X2 Y rl h ∧ (∀ m, rx_ m fs.length vs.length X X2) ∧ dr_ X2 fs (vs ++ [v]) c ∧ ∀ b i, b < 25 → X2 b i = X b i :=
  ⟨_, ha, fun _ => rx_take, dr_take hdr, fun b i hb => (xu_a (by omega)).trans (xu_a (by omega))⟩
theorem td_pack {o : Nat} {X : Nat → Nat → Int32} {Y : Nat → Nat → Int64} {rl : Option Nat} {h : mm_H} {fs vs : List Nat} {c v : Nat} (ha : cm_at o (xu (xu (xu (xu X 27 vs.length (nI v)) 25 4 (nI (vs.length + 1))) 27 (vs.length + 1) (nI 0)) 25 4 (nI (vs.length + 1 + 1))) Y rl h) (hdr : dr_ X fs vs c) : ∃ X2, cm_at o X2 Y rl h ∧ (∀ m, rx_ m fs.length vs.length X X2) ∧ dr_ X2 fs (vs ++ [v, 0]) c ∧ ∀ b i, b < 25 → X2 b i = X b i :=
  ⟨_, ha, fun _ => rx_dot, dr_dot hdr, fun b i hb => (xu_a (by omega)).trans ((xu_a (by omega)).trans ((xu_a (by omega)).trans (xu_a (by omega))))⟩
theorem fl_3 : ∀ sg, sg < 16 → ∀ k, k < 7 → fl_ sg k / 3 * 2 = 2 * fl_ sg k / 3 := by decide +kernel
theorem fl_2 : ∀ sg, sg < 16 → ∀ k, k < 6 → sp_perf sg k = false → fl_ sg k / 2 * 3 = fl_ sg k + fl_ sg k / 2 := by decide +kernel
set_option maxRecDepth 100000 in
set_option maxHeartbeats 4000000 in
theorem cR_p1p {l : Launch} {D : va_G} {aa : Nat → ClassId} {b0 : Nat} {h : mm_H} {o : Nat} {X : Nat → Nat → Int32} {Y : Nat → Nat → Int64} {rl : Option Nat} {w : ro_w} {sg a dt : Nat} {E U P H PL RS CO AL LI : Nat → Nat} {m t k c : Nat} {r : List gK} {fs vs : List Nat} (ha : cm_at o X Y rl h) (hva : vA a) (hrq : rq_ X w sg a dt E U P H PL RS CO AL LI) (hm : X 4 6 = nI m) (hm8 : m + 1 ≤ 128) (hct : ct_ X w sg (gd_ sg) r t) (htm : t < m) (hdr : dr_ X fs vs c) (hpv : vs.length + 1 ≤ 24) (hk : k ≤ 6) (hpf : sp_perf sg k = true) : mm_V (zz_K l D aa b0) 2 yX5_partsOfUnit cX5_partsOfUnit 8 (some .int) 0 [(0, .ref (o + 3)), (1, .ref (o + a)), (2, .int (nI (1))), (3, .int (nI (k))), (4, .int (nI (t)))] [] h 0 0 (fun rv h' => ∃ (X' : Nat → Nat → Int32) (t' : Nat), rv = some (.int (nI t')) ∧ cm_at o X' Y rl h' ∧ cm_fr o h h' ∧ rx_ m fs.length vs.length X X' ∧ X' 4 6 = nI (m + 1) ∧ t' < m + 1 ∧ ct_ X' w sg (gd_ sg) ([(6, k, 0)] ++ r) t' ∧ dr_ X' fs (vs ++ [fl_ sg k]) c) := by
  have hf := cm_fr.rf (o := o) (h := h)
  have hrx := rx_.rf (m := m) (n := fs.length) (p := vs.length) (X := X)
  have hfb := (fl_b sg hrq.2.2.2.2.1 k (by omega)).1
  refine mm_aload_n dX5_partsOfUnit_0 rfl 1 rfl ?_
  refine mm_iload_n dX5_partsOfUnit_1 rfl 3 rfl ?_
  refine cm_callVr (As := [.int (nI (k))]) (rest := []) (d2 := 1) dX5_partsOfUnit_2 ha (vA_lt hva 0 (by decide)) (vA_0 hva) zz_clX9 zc_X5_221 zs_X9_fullOf rfl rfl (Nat.le_of_ble_eq_true rfl) (Nat.le_of_ble_eq_true rfl) (by decide) (cv_fullOf ha hva hrq.2.2.2.2.2.2 (by omega)) ?_
  refine mn_top (u := .int (nI (fl_ sg k))) (congrArg Value.int (by rw [if_pos (by omega)])) ?_
  refine mm_istore (L' := [(5, .int (nI (fl_ sg k))), (0, .ref (o + 3)), (1, .ref (o + a)), (2, .int (nI (1))), (3, .int (nI (k))), (4, .int (nI (t)))]) dX5_partsOfUnit_5 (by decide) rfl ?_
  refine mm_iconst (v := nI 2) dX5_partsOfUnit_7 (by decide) ?_
  refine mm_aload_n dX5_partsOfUnit_8 rfl 2 rfl ?_
  refine mm_iload_n dX5_partsOfUnit_9 rfl 4 rfl ?_
  refine mm_iconst (v := nI 1) dX5_partsOfUnit_10 (by decide) ?_
  refine mn_iadd dX5_partsOfUnit_11 ?_
  refine cm_callVr (As := [.int (nI ((k) + (1)))]) (rest := [.int (nI (2))]) (d2 := 1) dX5_partsOfUnit_12 ha (vA_lt hva 0 (by decide)) (vA_0 hva) zz_clX9 zc_X5_221 zs_X9_fullOf rfl rfl (Nat.le_of_ble_eq_true rfl) (Nat.le_of_ble_eq_true rfl) (by decide) (cv_fullOf ha hva hrq.2.2.2.2.2.2 (by omega)) ?_
  refine mn_imul dX5_partsOfUnit_15 ?_
  refine mm_istore (L' := [(6, .int (nI ((2) * (if (k) + (1) < 7 then fl_ sg ((k) + (1)) else 0)))), (5, .int (nI (fl_ sg k))), (0, .ref (o + 3)), (1, .ref (o + a)), (2, .int (nI (1))), (3, .int (nI (k))), (4, .int (nI (t)))]) dX5_partsOfUnit_16 (by decide) rfl ?_
  refine mm_aload_n dX5_partsOfUnit_18 rfl 3 rfl ?_
  refine mm_iload_n dX5_partsOfUnit_19 rfl 5 rfl ?_
  refine cm_callVr (As := [.int (nI (k))]) (rest := []) (d2 := 0) dX5_partsOfUnit_20 ha (vA_lt hva 0 (by decide)) (vA_0 hva) zz_clX9 zc_X5_224 zs_X9_isPerfect rfl rfl (Nat.le_of_ble_eq_true rfl) (Nat.le_of_ble_eq_true rfl) (by decide) (cv_isPerfect ha hva hrq.2.2.2.1 hrq.2.2.2.2.1 (by omega)) ?_
  refine mn_ifB_eq (tgt := 43) dX5_partsOfUnit_23 (by decide) (fun c23 => ?_) (fun c23 => ?_)
  · rw [hpf] at c23
    cases c23
  · refine mm_iload_n dX5_partsOfUnit_26 rfl 4 rfl ?_
    refine mm_iconst (v := nI 3) dX5_partsOfUnit_27 (by decide) ?_
    refine mn_icmp_eq (tgt := 43) dX5_partsOfUnit_28 (by decide) (by omega) (by omega) (fun c28 => ?_) (fun c28 => ?_)
    · exact absurd c28 (by decide)
    · refine mm_aload_n dX5_partsOfUnit_31 rfl 2 rfl ?_
      refine cm_getR (b := 4) dX5_partsOfUnit_32 ha zr_X5_14 (by decide) rfl rfl rfl ?_
      refine mm_iload dX5_partsOfUnit_35 6 rfl ?_
      refine cm_callV (As := [.int (nI (t))]) (rest := []) (d2 := 1) dX5_partsOfUnit_37 ha (by decide) rfl zz_clX0 zc_X5_227 zs_X0_divide rfl rfl (Nat.le_of_ble_eq_true rfl) (Nat.le_of_ble_eq_true rfl) (by decide) (cc_divide ha hva hrq hm (by omega) hct (by omega) (k := k)) (fun r h1 hq => ?_)
      obtain ⟨X2, rfl, ha, hf', hpq, hm, hct⟩ := hq
      have hf := hf.tr hf'
      have hrx := hrx.tr (hpq.rx (n := fs.length) (p := vs.length)) (by omega) (Nat.le_refl _) (Nat.le_refl _)
      have hrq := (hpq.rx (n := 0) (p := 0)).q (by omega) hva hrq
      have hdr := dr_x hdr (fun b i z => hpq b i (by omega))
      refine mm_goto (tgt := 45) dX5_partsOfUnit_40 (by decide) ?_
      refine mm_istore (L' := [(7, .int (nI (m))), (6, .int (nI ((2) * (if (k) + (1) < 7 then fl_ sg ((k) + (1)) else 0)))), (5, .int (nI (fl_ sg k))), (0, .ref (o + 3)), (1, .ref (o + a)), (2, .int (nI (1))), (3, .int (nI (k))), (4, .int (nI (t)))]) dX5_partsOfUnit_45 (by decide) rfl ?_
      refine mm_iload_n dX5_partsOfUnit_47 rfl 5 rfl ?_
      refine mm_tableIn (off := 56) (tgt := 104) dX5_partsOfUnit_48 (by decide) (by decide) rfl (by decide) ?_
      refine mm_aload_n dX5_partsOfUnit_104 rfl 3 rfl ?_
      refine cm_getR (b := 25) dX5_partsOfUnit_105 ha zr_X5_28 (by decide) rfl rfl rfl ?_
      refine mm_iload dX5_partsOfUnit_108 2 rfl ?_
      refine cm_callV (As := [.int (nI (fl_ sg k))]) (rest := []) (d2 := 0) dX5_partsOfUnit_110 ha (by decide) rfl zz_clX1 zc_X5_230 zs_X1_take rfl rfl (Nat.le_of_ble_eq_true rfl) (Nat.le_of_ble_eq_true rfl) (by decide) (cd_take ha hdr.1.2.2.1 (by omega)) (fun r h1 hq => ?_)
      obtain ⟨rfl, ha, hf'⟩ := hq
      have hf := hf.tr hf'
      obtain ⟨X3, ha, hrx', hdr, hlo⟩ := tk_pack ha hdr
      have hrx := hrx.tr (hrx' m) (by omega) (Nat.le_refl _) (by first | exact Nat.le_refl _ | (rw [List.length_append]; omega))
      have hrq := (hrx' m).q (by omega) hva hrq
      have hct := ct_x hct (fun b i h1 h2 h3 => hlo b i (by omega))
      have hm := (hlo 4 6 (by decide)).trans hm
      refine mm_iload dX5_partsOfUnit_113 0 rfl ?_
      exact mm_iret dX5_partsOfUnit_115 rfl (⟨_, m, rfl, ha, hf, hrx, hm, by omega, hct, hdr⟩)
set_option maxRecDepth 100000 in
set_option maxHeartbeats 4000000 in
theorem cR_p1i {l : Launch} {D : va_G} {aa : Nat → ClassId} {b0 : Nat} {h : mm_H} {o : Nat} {X : Nat → Nat → Int32} {Y : Nat → Nat → Int64} {rl : Option Nat} {w : ro_w} {sg a dt : Nat} {E U P H PL RS CO AL LI : Nat → Nat} {m t k c : Nat} {r : List gK} {fs vs : List Nat} (ha : cm_at o X Y rl h) (hva : vA a) (hrq : rq_ X w sg a dt E U P H PL RS CO AL LI) (hm : X 4 6 = nI m) (hm8 : m + 0 ≤ 128) (hct : ct_ X w sg (gd_ sg) r t) (htm : t < m) (hdr : dr_ X fs vs c) (hpv : vs.length + 1 ≤ 24) (hk : k ≤ 6) (hpf : sp_perf sg k = false) : mm_V (zz_K l D aa b0) 2 yX5_partsOfUnit cX5_partsOfUnit 8 (some .int) 0 [(0, .ref (o + 3)), (1, .ref (o + a)), (2, .int (nI (1))), (3, .int (nI (k))), (4, .int (nI (t)))] [] h 0 0 (fun rv h' => ∃ (X' : Nat → Nat → Int32) (t' : Nat), rv = some (.int (nI t')) ∧ cm_at o X' Y rl h' ∧ cm_fr o h h' ∧ rx_ m fs.length vs.length X X' ∧ X' 4 6 = nI (m + 0) ∧ t' < m + 0 ∧ ct_ X' w sg (gd_ sg) ([] ++ r) t' ∧ dr_ X' fs (vs ++ [fl_ sg k]) c) := by
  have hf := cm_fr.rf (o := o) (h := h)
  have hrx := rx_.rf (m := m) (n := fs.length) (p := vs.length) (X := X)
  have hfb := (fl_b sg hrq.2.2.2.2.1 k (by omega)).1
  refine mm_aload_n dX5_partsOfUnit_0 rfl 1 rfl ?_
  refine mm_iload_n dX5_partsOfUnit_1 rfl 3 rfl ?_
  refine cm_callVr (As := [.int (nI (k))]) (rest := []) (d2 := 1) dX5_partsOfUnit_2 ha (vA_lt hva 0 (by decide)) (vA_0 hva) zz_clX9 zc_X5_221 zs_X9_fullOf rfl rfl (Nat.le_of_ble_eq_true rfl) (Nat.le_of_ble_eq_true rfl) (by decide) (cv_fullOf ha hva hrq.2.2.2.2.2.2 (by omega)) ?_
  refine mn_top (u := .int (nI (fl_ sg k))) (congrArg Value.int (by rw [if_pos (by omega)])) ?_
  refine mm_istore (L' := [(5, .int (nI (fl_ sg k))), (0, .ref (o + 3)), (1, .ref (o + a)), (2, .int (nI (1))), (3, .int (nI (k))), (4, .int (nI (t)))]) dX5_partsOfUnit_5 (by decide) rfl ?_
  refine mm_iconst (v := nI 2) dX5_partsOfUnit_7 (by decide) ?_
  refine mm_aload_n dX5_partsOfUnit_8 rfl 2 rfl ?_
  refine mm_iload_n dX5_partsOfUnit_9 rfl 4 rfl ?_
  refine mm_iconst (v := nI 1) dX5_partsOfUnit_10 (by decide) ?_
  refine mn_iadd dX5_partsOfUnit_11 ?_
  refine cm_callVr (As := [.int (nI ((k) + (1)))]) (rest := [.int (nI (2))]) (d2 := 1) dX5_partsOfUnit_12 ha (vA_lt hva 0 (by decide)) (vA_0 hva) zz_clX9 zc_X5_221 zs_X9_fullOf rfl rfl (Nat.le_of_ble_eq_true rfl) (Nat.le_of_ble_eq_true rfl) (by decide) (cv_fullOf ha hva hrq.2.2.2.2.2.2 (by omega)) ?_
  refine mn_imul dX5_partsOfUnit_15 ?_
  refine mm_istore (L' := [(6, .int (nI ((2) * (if (k) + (1) < 7 then fl_ sg ((k) + (1)) else 0)))), (5, .int (nI (fl_ sg k))), (0, .ref (o + 3)), (1, .ref (o + a)), (2, .int (nI (1))), (3, .int (nI (k))), (4, .int (nI (t)))]) dX5_partsOfUnit_16 (by decide) rfl ?_
  refine mm_aload_n dX5_partsOfUnit_18 rfl 3 rfl ?_
  refine mm_iload_n dX5_partsOfUnit_19 rfl 5 rfl ?_
  refine cm_callVr (As := [.int (nI (k))]) (rest := []) (d2 := 0) dX5_partsOfUnit_20 ha (vA_lt hva 0 (by decide)) (vA_0 hva) zz_clX9 zc_X5_224 zs_X9_isPerfect rfl rfl (Nat.le_of_ble_eq_true rfl) (Nat.le_of_ble_eq_true rfl) (by decide) (cv_isPerfect ha hva hrq.2.2.2.1 hrq.2.2.2.2.1 (by omega)) ?_
  refine mn_ifB_eq (tgt := 43) dX5_partsOfUnit_23 (by decide) (fun c23 => ?_) (fun c23 => ?_)
  · refine mm_iload dX5_partsOfUnit_43 6 rfl ?_
    refine mm_istore (L' := [(7, .int (nI (t))), (6, .int (nI ((2) * (if (k) + (1) < 7 then fl_ sg ((k) + (1)) else 0)))), (5, .int (nI (fl_ sg k))), (0, .ref (o + 3)), (1, .ref (o + a)), (2, .int (nI (1))), (3, .int (nI (k))), (4, .int (nI (t)))]) dX5_partsOfUnit_45 (by decide) rfl ?_
    refine mm_iload_n dX5_partsOfUnit_47 rfl 5 rfl ?_
    refine mm_tableIn (off := 56) (tgt := 104) dX5_partsOfUnit_48 (by decide) (by decide) rfl (by decide) ?_
    refine mm_aload_n dX5_partsOfUnit_104 rfl 3 rfl ?_
    refine cm_getR (b := 25) dX5_partsOfUnit_105 ha zr_X5_28 (by decide) rfl rfl rfl ?_
    refine mm_iload dX5_partsOfUnit_108 2 rfl ?_
    refine cm_callV (As := [.int (nI (fl_ sg k))]) (rest := []) (d2 := 0) dX5_partsOfUnit_110 ha (by decide) rfl zz_clX1 zc_X5_230 zs_X1_take rfl rfl (Nat.le_of_ble_eq_true rfl) (Nat.le_of_ble_eq_true rfl) (by decide) (cd_take ha hdr.1.2.2.1 (by omega)) (fun r h1 hq => ?_)
    obtain ⟨rfl, ha, hf'⟩ := hq
    have hf := hf.tr hf'
    obtain ⟨X2, ha, hrx', hdr, hlo⟩ := tk_pack ha hdr
    have hrx := hrx.tr (hrx' m) (by omega) (Nat.le_refl _) (by first | exact Nat.le_refl _ | (rw [List.length_append]; omega))
    have hrq := (hrx' m).q (by omega) hva hrq
    have hct := ct_x hct (fun b i h1 h2 h3 => hlo b i (by omega))
    have hm := (hlo 4 6 (by decide)).trans hm
    refine mm_iload dX5_partsOfUnit_113 0 rfl ?_
    exact mm_iret dX5_partsOfUnit_115 rfl (⟨_, t, rfl, ha, hf, hrx, hm, by omega, hct, hdr⟩)
  · rw [hpf] at c23
    cases c23
set_option maxRecDepth 100000 in
set_option maxHeartbeats 4000000 in
theorem cR_p2p {l : Launch} {D : va_G} {aa : Nat → ClassId} {b0 : Nat} {h : mm_H} {o : Nat} {X : Nat → Nat → Int32} {Y : Nat → Nat → Int64} {rl : Option Nat} {w : ro_w} {sg a dt : Nat} {E U P H PL RS CO AL LI : Nat → Nat} {m t k c : Nat} {r : List gK} {fs vs : List Nat} (ha : cm_at o X Y rl h) (hva : vA a) (hrq : rq_ X w sg a dt E U P H PL RS CO AL LI) (hm : X 4 6 = nI m) (hm8 : m + 1 ≤ 128) (hct : ct_ X w sg (gd_ sg) r t) (htm : t < m) (hdr : dr_ X fs vs c) (hpv : vs.length + 1 ≤ 24) (hk : k ≤ 6) (hpf : sp_perf sg k = true) : mm_V (zz_K l D aa b0) 2 yX5_partsOfUnit cX5_partsOfUnit 8 (some .int) 0 [(0, .ref (o + 3)), (1, .ref (o + a)), (2, .int (nI (2))), (3, .int (nI (k))), (4, .int (nI (t)))] [] h 0 0 (fun rv h' => ∃ (X' : Nat → Nat → Int32) (t' : Nat), rv = some (.int (nI t')) ∧ cm_at o X' Y rl h' ∧ cm_fr o h h' ∧ rx_ m fs.length vs.length X X' ∧ X' 4 6 = nI (m + 1) ∧ t' < m + 1 ∧ ct_ X' w sg (gd_ sg) ([(6, k, 0)] ++ r) t' ∧ dr_ X' fs (vs ++ [fl_ sg k]) c) := by
  have hf := cm_fr.rf (o := o) (h := h)
  have hrx := rx_.rf (m := m) (n := fs.length) (p := vs.length) (X := X)
  have hfb := (fl_b sg hrq.2.2.2.2.1 k (by omega)).1
  refine mm_aload_n dX5_partsOfUnit_0 rfl 1 rfl ?_
  refine mm_iload_n dX5_partsOfUnit_1 rfl 3 rfl ?_
  refine cm_callVr (As := [.int (nI (k))]) (rest := []) (d2 := 1) dX5_partsOfUnit_2 ha (vA_lt hva 0 (by decide)) (vA_0 hva) zz_clX9 zc_X5_221 zs_X9_fullOf rfl rfl (Nat.le_of_ble_eq_true rfl) (Nat.le_of_ble_eq_true rfl) (by decide) (cv_fullOf ha hva hrq.2.2.2.2.2.2 (by omega)) ?_
  refine mn_top (u := .int (nI (fl_ sg k))) (congrArg Value.int (by rw [if_pos (by omega)])) ?_
  refine mm_istore (L' := [(5, .int (nI (fl_ sg k))), (0, .ref (o + 3)), (1, .ref (o + a)), (2, .int (nI (2))), (3, .int (nI (k))), (4, .int (nI (t)))]) dX5_partsOfUnit_5 (by decide) rfl ?_
  refine mm_iconst (v := nI 2) dX5_partsOfUnit_7 (by decide) ?_
  refine mm_aload_n dX5_partsOfUnit_8 rfl 2 rfl ?_
  refine mm_iload_n dX5_partsOfUnit_9 rfl 4 rfl ?_
  refine mm_iconst (v := nI 1) dX5_partsOfUnit_10 (by decide) ?_
  refine mn_iadd dX5_partsOfUnit_11 ?_
  refine cm_callVr (As := [.int (nI ((k) + (1)))]) (rest := [.int (nI (2))]) (d2 := 1) dX5_partsOfUnit_12 ha (vA_lt hva 0 (by decide)) (vA_0 hva) zz_clX9 zc_X5_221 zs_X9_fullOf rfl rfl (Nat.le_of_ble_eq_true rfl) (Nat.le_of_ble_eq_true rfl) (by decide) (cv_fullOf ha hva hrq.2.2.2.2.2.2 (by omega)) ?_
  refine mn_imul dX5_partsOfUnit_15 ?_
  refine mm_istore (L' := [(6, .int (nI ((2) * (if (k) + (1) < 7 then fl_ sg ((k) + (1)) else 0)))), (5, .int (nI (fl_ sg k))), (0, .ref (o + 3)), (1, .ref (o + a)), (2, .int (nI (2))), (3, .int (nI (k))), (4, .int (nI (t)))]) dX5_partsOfUnit_16 (by decide) rfl ?_
  refine mm_aload_n dX5_partsOfUnit_18 rfl 3 rfl ?_
  refine mm_iload_n dX5_partsOfUnit_19 rfl 5 rfl ?_
  refine cm_callVr (As := [.int (nI (k))]) (rest := []) (d2 := 0) dX5_partsOfUnit_20 ha (vA_lt hva 0 (by decide)) (vA_0 hva) zz_clX9 zc_X5_224 zs_X9_isPerfect rfl rfl (Nat.le_of_ble_eq_true rfl) (Nat.le_of_ble_eq_true rfl) (by decide) (cv_isPerfect ha hva hrq.2.2.2.1 hrq.2.2.2.2.1 (by omega)) ?_
  refine mn_ifB_eq (tgt := 43) dX5_partsOfUnit_23 (by decide) (fun c23 => ?_) (fun c23 => ?_)
  · rw [hpf] at c23
    cases c23
  · refine mm_iload_n dX5_partsOfUnit_26 rfl 4 rfl ?_
    refine mm_iconst (v := nI 3) dX5_partsOfUnit_27 (by decide) ?_
    refine mn_icmp_eq (tgt := 43) dX5_partsOfUnit_28 (by decide) (by omega) (by omega) (fun c28 => ?_) (fun c28 => ?_)
    · exact absurd c28 (by decide)
    · refine mm_aload_n dX5_partsOfUnit_31 rfl 2 rfl ?_
      refine cm_getR (b := 4) dX5_partsOfUnit_32 ha zr_X5_14 (by decide) rfl rfl rfl ?_
      refine mm_iload dX5_partsOfUnit_35 6 rfl ?_
      refine cm_callV (As := [.int (nI (t))]) (rest := []) (d2 := 1) dX5_partsOfUnit_37 ha (by decide) rfl zz_clX0 zc_X5_227 zs_X0_divide rfl rfl (Nat.le_of_ble_eq_true rfl) (Nat.le_of_ble_eq_true rfl) (by decide) (cc_divide ha hva hrq hm (by omega) hct (by omega) (k := k)) (fun r h1 hq => ?_)
      obtain ⟨X2, rfl, ha, hf', hpq, hm, hct⟩ := hq
      have hf := hf.tr hf'
      have hrx := hrx.tr (hpq.rx (n := fs.length) (p := vs.length)) (by omega) (Nat.le_refl _) (Nat.le_refl _)
      have hrq := (hpq.rx (n := 0) (p := 0)).q (by omega) hva hrq
      have hdr := dr_x hdr (fun b i z => hpq b i (by omega))
      refine mm_goto (tgt := 45) dX5_partsOfUnit_40 (by decide) ?_
      refine mm_istore (L' := [(7, .int (nI (m))), (6, .int (nI ((2) * (if (k) + (1) < 7 then fl_ sg ((k) + (1)) else 0)))), (5, .int (nI (fl_ sg k))), (0, .ref (o + 3)), (1, .ref (o + a)), (2, .int (nI (2))), (3, .int (nI (k))), (4, .int (nI (t)))]) dX5_partsOfUnit_45 (by decide) rfl ?_
      refine mm_iload_n dX5_partsOfUnit_47 rfl 5 rfl ?_
      refine mm_tableIn (off := 56) (tgt := 104) dX5_partsOfUnit_48 (by decide) (by decide) rfl (by decide) ?_
      refine mm_aload_n dX5_partsOfUnit_104 rfl 3 rfl ?_
      refine cm_getR (b := 25) dX5_partsOfUnit_105 ha zr_X5_28 (by decide) rfl rfl rfl ?_
      refine mm_iload dX5_partsOfUnit_108 2 rfl ?_
      refine cm_callV (As := [.int (nI (fl_ sg k))]) (rest := []) (d2 := 0) dX5_partsOfUnit_110 ha (by decide) rfl zz_clX1 zc_X5_230 zs_X1_take rfl rfl (Nat.le_of_ble_eq_true rfl) (Nat.le_of_ble_eq_true rfl) (by decide) (cd_take ha hdr.1.2.2.1 (by omega)) (fun r h1 hq => ?_)
      obtain ⟨rfl, ha, hf'⟩ := hq
      have hf := hf.tr hf'
      obtain ⟨X3, ha, hrx', hdr, hlo⟩ := tk_pack ha hdr
      have hrx := hrx.tr (hrx' m) (by omega) (Nat.le_refl _) (by first | exact Nat.le_refl _ | (rw [List.length_append]; omega))
      have hrq := (hrx' m).q (by omega) hva hrq
      have hct := ct_x hct (fun b i h1 h2 h3 => hlo b i (by omega))
      have hm := (hlo 4 6 (by decide)).trans hm
      refine mm_iload dX5_partsOfUnit_113 0 rfl ?_
      exact mm_iret dX5_partsOfUnit_115 rfl (⟨_, m, rfl, ha, hf, hrx, hm, by omega, hct, hdr⟩)
set_option maxRecDepth 100000 in
set_option maxHeartbeats 4000000 in
theorem cR_p2i {l : Launch} {D : va_G} {aa : Nat → ClassId} {b0 : Nat} {h : mm_H} {o : Nat} {X : Nat → Nat → Int32} {Y : Nat → Nat → Int64} {rl : Option Nat} {w : ro_w} {sg a dt : Nat} {E U P H PL RS CO AL LI : Nat → Nat} {m t k c : Nat} {r : List gK} {fs vs : List Nat} (ha : cm_at o X Y rl h) (hva : vA a) (hrq : rq_ X w sg a dt E U P H PL RS CO AL LI) (hm : X 4 6 = nI m) (hm8 : m + 0 ≤ 128) (hct : ct_ X w sg (gd_ sg) r t) (htm : t < m) (hdr : dr_ X fs vs c) (hpv : vs.length + 1 ≤ 24) (hk : k ≤ 6) (hpf : sp_perf sg k = false) : mm_V (zz_K l D aa b0) 2 yX5_partsOfUnit cX5_partsOfUnit 8 (some .int) 0 [(0, .ref (o + 3)), (1, .ref (o + a)), (2, .int (nI (2))), (3, .int (nI (k))), (4, .int (nI (t)))] [] h 0 0 (fun rv h' => ∃ (X' : Nat → Nat → Int32) (t' : Nat), rv = some (.int (nI t')) ∧ cm_at o X' Y rl h' ∧ cm_fr o h h' ∧ rx_ m fs.length vs.length X X' ∧ X' 4 6 = nI (m + 0) ∧ t' < m + 0 ∧ ct_ X' w sg (gd_ sg) ([] ++ r) t' ∧ dr_ X' fs (vs ++ [fl_ sg k]) c) := by
  have hf := cm_fr.rf (o := o) (h := h)
  have hrx := rx_.rf (m := m) (n := fs.length) (p := vs.length) (X := X)
  have hfb := (fl_b sg hrq.2.2.2.2.1 k (by omega)).1
  refine mm_aload_n dX5_partsOfUnit_0 rfl 1 rfl ?_
  refine mm_iload_n dX5_partsOfUnit_1 rfl 3 rfl ?_
  refine cm_callVr (As := [.int (nI (k))]) (rest := []) (d2 := 1) dX5_partsOfUnit_2 ha (vA_lt hva 0 (by decide)) (vA_0 hva) zz_clX9 zc_X5_221 zs_X9_fullOf rfl rfl (Nat.le_of_ble_eq_true rfl) (Nat.le_of_ble_eq_true rfl) (by decide) (cv_fullOf ha hva hrq.2.2.2.2.2.2 (by omega)) ?_
  refine mn_top (u := .int (nI (fl_ sg k))) (congrArg Value.int (by rw [if_pos (by omega)])) ?_
  refine mm_istore (L' := [(5, .int (nI (fl_ sg k))), (0, .ref (o + 3)), (1, .ref (o + a)), (2, .int (nI (2))), (3, .int (nI (k))), (4, .int (nI (t)))]) dX5_partsOfUnit_5 (by decide) rfl ?_
  refine mm_iconst (v := nI 2) dX5_partsOfUnit_7 (by decide) ?_
  refine mm_aload_n dX5_partsOfUnit_8 rfl 2 rfl ?_
  refine mm_iload_n dX5_partsOfUnit_9 rfl 4 rfl ?_
  refine mm_iconst (v := nI 1) dX5_partsOfUnit_10 (by decide) ?_
  refine mn_iadd dX5_partsOfUnit_11 ?_
  refine cm_callVr (As := [.int (nI ((k) + (1)))]) (rest := [.int (nI (2))]) (d2 := 1) dX5_partsOfUnit_12 ha (vA_lt hva 0 (by decide)) (vA_0 hva) zz_clX9 zc_X5_221 zs_X9_fullOf rfl rfl (Nat.le_of_ble_eq_true rfl) (Nat.le_of_ble_eq_true rfl) (by decide) (cv_fullOf ha hva hrq.2.2.2.2.2.2 (by omega)) ?_
  refine mn_imul dX5_partsOfUnit_15 ?_
  refine mm_istore (L' := [(6, .int (nI ((2) * (if (k) + (1) < 7 then fl_ sg ((k) + (1)) else 0)))), (5, .int (nI (fl_ sg k))), (0, .ref (o + 3)), (1, .ref (o + a)), (2, .int (nI (2))), (3, .int (nI (k))), (4, .int (nI (t)))]) dX5_partsOfUnit_16 (by decide) rfl ?_
  refine mm_aload_n dX5_partsOfUnit_18 rfl 3 rfl ?_
  refine mm_iload_n dX5_partsOfUnit_19 rfl 5 rfl ?_
  refine cm_callVr (As := [.int (nI (k))]) (rest := []) (d2 := 0) dX5_partsOfUnit_20 ha (vA_lt hva 0 (by decide)) (vA_0 hva) zz_clX9 zc_X5_224 zs_X9_isPerfect rfl rfl (Nat.le_of_ble_eq_true rfl) (Nat.le_of_ble_eq_true rfl) (by decide) (cv_isPerfect ha hva hrq.2.2.2.1 hrq.2.2.2.2.1 (by omega)) ?_
  refine mn_ifB_eq (tgt := 43) dX5_partsOfUnit_23 (by decide) (fun c23 => ?_) (fun c23 => ?_)
  · refine mm_iload dX5_partsOfUnit_43 6 rfl ?_
    refine mm_istore (L' := [(7, .int (nI (t))), (6, .int (nI ((2) * (if (k) + (1) < 7 then fl_ sg ((k) + (1)) else 0)))), (5, .int (nI (fl_ sg k))), (0, .ref (o + 3)), (1, .ref (o + a)), (2, .int (nI (2))), (3, .int (nI (k))), (4, .int (nI (t)))]) dX5_partsOfUnit_45 (by decide) rfl ?_
    refine mm_iload_n dX5_partsOfUnit_47 rfl 5 rfl ?_
    refine mm_tableIn (off := 56) (tgt := 104) dX5_partsOfUnit_48 (by decide) (by decide) rfl (by decide) ?_
    refine mm_aload_n dX5_partsOfUnit_104 rfl 3 rfl ?_
    refine cm_getR (b := 25) dX5_partsOfUnit_105 ha zr_X5_28 (by decide) rfl rfl rfl ?_
    refine mm_iload dX5_partsOfUnit_108 2 rfl ?_
    refine cm_callV (As := [.int (nI (fl_ sg k))]) (rest := []) (d2 := 0) dX5_partsOfUnit_110 ha (by decide) rfl zz_clX1 zc_X5_230 zs_X1_take rfl rfl (Nat.le_of_ble_eq_true rfl) (Nat.le_of_ble_eq_true rfl) (by decide) (cd_take ha hdr.1.2.2.1 (by omega)) (fun r h1 hq => ?_)
    obtain ⟨rfl, ha, hf'⟩ := hq
    have hf := hf.tr hf'
    obtain ⟨X2, ha, hrx', hdr, hlo⟩ := tk_pack ha hdr
    have hrx := hrx.tr (hrx' m) (by omega) (Nat.le_refl _) (by first | exact Nat.le_refl _ | (rw [List.length_append]; omega))
    have hrq := (hrx' m).q (by omega) hva hrq
    have hct := ct_x hct (fun b i h1 h2 h3 => hlo b i (by omega))
    have hm := (hlo 4 6 (by decide)).trans hm
    refine mm_iload dX5_partsOfUnit_113 0 rfl ?_
    exact mm_iret dX5_partsOfUnit_115 rfl (⟨_, t, rfl, ha, hf, hrx, hm, by omega, hct, hdr⟩)
  · rw [hpf] at c23
    cases c23
set_option maxRecDepth 100000 in
set_option maxHeartbeats 4000000 in
theorem cR_p3p {l : Launch} {D : va_G} {aa : Nat → ClassId} {b0 : Nat} {h : mm_H} {o : Nat} {X : Nat → Nat → Int32} {Y : Nat → Nat → Int64} {rl : Option Nat} {w : ro_w} {sg a dt : Nat} {E U P H PL RS CO AL LI : Nat → Nat} {m t k c : Nat} {r : List gK} {fs vs : List Nat} (ha : cm_at o X Y rl h) (hva : vA a) (hrq : rq_ X w sg a dt E U P H PL RS CO AL LI) (hm : X 4 6 = nI m) (hm8 : m + 0 ≤ 128) (hct : ct_ X w sg (gd_ sg) r t) (htm : t < m) (hdr : dr_ X fs vs c) (hpv : vs.length + 2 ≤ 24) (hk : k ≤ 6) (hpf : sp_perf sg k = true) : mm_V (zz_K l D aa b0) 2 yX5_partsOfUnit cX5_partsOfUnit 8 (some .int) 0 [(0, .ref (o + 3)), (1, .ref (o + a)), (2, .int (nI (3))), (3, .int (nI (k))), (4, .int (nI (t)))] [] h 0 0 (fun rv h' => ∃ (X' : Nat → Nat → Int32) (t' : Nat), rv = some (.int (nI t')) ∧ cm_at o X' Y rl h' ∧ cm_fr o h h' ∧ rx_ m fs.length vs.length X X' ∧ X' 4 6 = nI (m + 0) ∧ t' < m + 0 ∧ ct_ X' w sg (gd_ sg) ([] ++ r) t' ∧ dr_ X' fs (vs ++ [fl_ sg k, 0]) c) := by
  have hf := cm_fr.rf (o := o) (h := h)
  have hrx := rx_.rf (m := m) (n := fs.length) (p := vs.length) (X := X)
  have hfb := (fl_b sg hrq.2.2.2.2.1 k (by omega)).1
  refine mm_aload_n dX5_partsOfUnit_0 rfl 1 rfl ?_
  refine mm_iload_n dX5_partsOfUnit_1 rfl 3 rfl ?_
  refine cm_callVr (As := [.int (nI (k))]) (rest := []) (d2 := 1) dX5_partsOfUnit_2 ha (vA_lt hva 0 (by decide)) (vA_0 hva) zz_clX9 zc_X5_221 zs_X9_fullOf rfl rfl (Nat.le_of_ble_eq_true rfl) (Nat.le_of_ble_eq_true rfl) (by decide) (cv_fullOf ha hva hrq.2.2.2.2.2.2 (by omega)) ?_
  refine mn_top (u := .int (nI (fl_ sg k))) (congrArg Value.int (by rw [if_pos (by omega)])) ?_
  refine mm_istore (L' := [(5, .int (nI (fl_ sg k))), (0, .ref (o + 3)), (1, .ref (o + a)), (2, .int (nI (3))), (3, .int (nI (k))), (4, .int (nI (t)))]) dX5_partsOfUnit_5 (by decide) rfl ?_
  refine mm_iconst (v := nI 2) dX5_partsOfUnit_7 (by decide) ?_
  refine mm_aload_n dX5_partsOfUnit_8 rfl 2 rfl ?_
  refine mm_iload_n dX5_partsOfUnit_9 rfl 4 rfl ?_
  refine mm_iconst (v := nI 1) dX5_partsOfUnit_10 (by decide) ?_
  refine mn_iadd dX5_partsOfUnit_11 ?_
  refine cm_callVr (As := [.int (nI ((k) + (1)))]) (rest := [.int (nI (2))]) (d2 := 1) dX5_partsOfUnit_12 ha (vA_lt hva 0 (by decide)) (vA_0 hva) zz_clX9 zc_X5_221 zs_X9_fullOf rfl rfl (Nat.le_of_ble_eq_true rfl) (Nat.le_of_ble_eq_true rfl) (by decide) (cv_fullOf ha hva hrq.2.2.2.2.2.2 (by omega)) ?_
  refine mn_imul dX5_partsOfUnit_15 ?_
  refine mm_istore (L' := [(6, .int (nI ((2) * (if (k) + (1) < 7 then fl_ sg ((k) + (1)) else 0)))), (5, .int (nI (fl_ sg k))), (0, .ref (o + 3)), (1, .ref (o + a)), (2, .int (nI (3))), (3, .int (nI (k))), (4, .int (nI (t)))]) dX5_partsOfUnit_16 (by decide) rfl ?_
  refine mm_aload_n dX5_partsOfUnit_18 rfl 3 rfl ?_
  refine mm_iload_n dX5_partsOfUnit_19 rfl 5 rfl ?_
  refine cm_callVr (As := [.int (nI (k))]) (rest := []) (d2 := 0) dX5_partsOfUnit_20 ha (vA_lt hva 0 (by decide)) (vA_0 hva) zz_clX9 zc_X5_224 zs_X9_isPerfect rfl rfl (Nat.le_of_ble_eq_true rfl) (Nat.le_of_ble_eq_true rfl) (by decide) (cv_isPerfect ha hva hrq.2.2.2.1 hrq.2.2.2.2.1 (by omega)) ?_
  refine mn_ifB_eq (tgt := 43) dX5_partsOfUnit_23 (by decide) (fun c23 => ?_) (fun c23 => ?_)
  · rw [hpf] at c23
    cases c23
  · refine mm_iload_n dX5_partsOfUnit_26 rfl 4 rfl ?_
    refine mm_iconst (v := nI 3) dX5_partsOfUnit_27 (by decide) ?_
    refine mn_icmp_eq (tgt := 43) dX5_partsOfUnit_28 (by decide) (by omega) (by omega) (fun c28 => ?_) (fun c28 => ?_)
    · refine mm_iload dX5_partsOfUnit_43 6 rfl ?_
      refine mm_istore (L' := [(7, .int (nI (t))), (6, .int (nI ((2) * (if (k) + (1) < 7 then fl_ sg ((k) + (1)) else 0)))), (5, .int (nI (fl_ sg k))), (0, .ref (o + 3)), (1, .ref (o + a)), (2, .int (nI (3))), (3, .int (nI (k))), (4, .int (nI (t)))]) dX5_partsOfUnit_45 (by decide) rfl ?_
      refine mm_iload_n dX5_partsOfUnit_47 rfl 5 rfl ?_
      refine mm_tableIn (off := 68) (tgt := 116) dX5_partsOfUnit_48 (by decide) (by decide) rfl (by decide) ?_
      refine mm_aload_n dX5_partsOfUnit_116 rfl 3 rfl ?_
      refine cm_getR (b := 25) dX5_partsOfUnit_117 ha zr_X5_28 (by decide) rfl rfl rfl ?_
      refine mm_iload dX5_partsOfUnit_120 2 rfl ?_
      refine cm_callV (As := [.int (nI (fl_ sg k))]) (rest := []) (d2 := 1) dX5_partsOfUnit_122 ha (by decide) rfl zz_clX1 zc_X5_233 zs_X1_takeDotted rfl rfl (Nat.le_of_ble_eq_true rfl) (Nat.le_of_ble_eq_true rfl) (by decide) (cd_takeDotted ha hdr.1.2.2.1 (by omega)) (fun r h1 hq => ?_)
      obtain ⟨rfl, ha, hf'⟩ := hq
      have hf := hf.tr hf'
      obtain ⟨X2, ha, hrx', hdr, hlo⟩ := td_pack ha hdr
      have hrx := hrx.tr (hrx' m) (by omega) (Nat.le_refl _) (by first | exact Nat.le_refl _ | (rw [List.length_append]; omega))
      have hrq := (hrx' m).q (by omega) hva hrq
      have hct := ct_x hct (fun b i h1 h2 h3 => hlo b i (by omega))
      have hm := (hlo 4 6 (by decide)).trans hm
      refine mm_iload dX5_partsOfUnit_125 0 rfl ?_
      exact mm_iret dX5_partsOfUnit_127 rfl (⟨_, t, rfl, ha, hf, hrx, hm, by omega, hct, hdr⟩)
    · exact absurd rfl c28
set_option maxRecDepth 100000 in
set_option maxHeartbeats 4000000 in
theorem cR_p4i {l : Launch} {D : va_G} {aa : Nat → ClassId} {b0 : Nat} {h : mm_H} {o : Nat} {X : Nat → Nat → Int32} {Y : Nat → Nat → Int64} {rl : Option Nat} {w : ro_w} {sg a dt : Nat} {E U P H PL RS CO AL LI : Nat → Nat} {m t k c : Nat} {r : List gK} {fs vs : List Nat} (ha : cm_at o X Y rl h) (hva : vA a) (hrq : rq_ X w sg a dt E U P H PL RS CO AL LI) (hm : X 4 6 = nI m) (hm8 : m + 2 ≤ 128) (hct : ct_ X w sg (gd_ sg) r t) (htm : t < m) (hdr : dr_ X fs vs c) (hpv : vs.length + 0 ≤ 24) (hk : k ≤ 6) (hpf : sp_perf sg k = false) (hg : (gd_ sg) ≤ k) (hk1 : k + 1 ≤ 6) : mm_V (zz_K l D aa b0) 2 yX5_partsOfUnit cX5_partsOfUnit 8 (some .int) 0 [(0, .ref (o + 3)), (1, .ref (o + a)), (2, .int (nI (4))), (3, .int (nI (k))), (4, .int (nI (t)))] [] h 0 0 (fun rv h' => ∃ (X' : Nat → Nat → Int32) (t' : Nat), rv = some (.int (nI t')) ∧ cm_at o X' Y rl h' ∧ cm_fr o h h' ∧ rx_ m fs.length vs.length X X' ∧ X' 4 6 = nI (m + 2) ∧ t' < m + 2 ∧ ct_ X' w sg (gd_ sg) ([(1, k + 1, 0), (1, k + 1, 0)] ++ r) t' ∧ dr_ X' fs (vs ++ []) c) := by
  have hf := cm_fr.rf (o := o) (h := h)
  have hrx := rx_.rf (m := m) (n := fs.length) (p := vs.length) (X := X)
  have hfb := (fl_b sg hrq.2.2.2.2.1 k (by omega)).1
  refine mm_aload_n dX5_partsOfUnit_0 rfl 1 rfl ?_
  refine mm_iload_n dX5_partsOfUnit_1 rfl 3 rfl ?_
  refine cm_callVr (As := [.int (nI (k))]) (rest := []) (d2 := 1) dX5_partsOfUnit_2 ha (vA_lt hva 0 (by decide)) (vA_0 hva) zz_clX9 zc_X5_221 zs_X9_fullOf rfl rfl (Nat.le_of_ble_eq_true rfl) (Nat.le_of_ble_eq_true rfl) (by decide) (cv_fullOf ha hva hrq.2.2.2.2.2.2 (by omega)) ?_
  refine mn_top (u := .int (nI (fl_ sg k))) (congrArg Value.int (by rw [if_pos (by omega)])) ?_
  refine mm_istore (L' := [(5, .int (nI (fl_ sg k))), (0, .ref (o + 3)), (1, .ref (o + a)), (2, .int (nI (4))), (3, .int (nI (k))), (4, .int (nI (t)))]) dX5_partsOfUnit_5 (by decide) rfl ?_
  refine mm_iconst (v := nI 2) dX5_partsOfUnit_7 (by decide) ?_
  refine mm_aload_n dX5_partsOfUnit_8 rfl 2 rfl ?_
  refine mm_iload_n dX5_partsOfUnit_9 rfl 4 rfl ?_
  refine mm_iconst (v := nI 1) dX5_partsOfUnit_10 (by decide) ?_
  refine mn_iadd dX5_partsOfUnit_11 ?_
  refine cm_callVr (As := [.int (nI ((k) + (1)))]) (rest := [.int (nI (2))]) (d2 := 1) dX5_partsOfUnit_12 ha (vA_lt hva 0 (by decide)) (vA_0 hva) zz_clX9 zc_X5_221 zs_X9_fullOf rfl rfl (Nat.le_of_ble_eq_true rfl) (Nat.le_of_ble_eq_true rfl) (by decide) (cv_fullOf ha hva hrq.2.2.2.2.2.2 (by omega)) ?_
  refine mn_top (u := .int (nI (fl_ sg (k + 1)))) (congrArg Value.int (by rw [if_pos (by omega)])) ?_
  refine mn_imul dX5_partsOfUnit_15 ?_
  refine mm_istore (L' := [(6, .int (nI ((2) * (fl_ sg (k + 1))))), (5, .int (nI (fl_ sg k))), (0, .ref (o + 3)), (1, .ref (o + a)), (2, .int (nI (4))), (3, .int (nI (k))), (4, .int (nI (t)))]) dX5_partsOfUnit_16 (by decide) rfl ?_
  refine mm_aload_n dX5_partsOfUnit_18 rfl 3 rfl ?_
  refine mm_iload_n dX5_partsOfUnit_19 rfl 5 rfl ?_
  refine cm_callVr (As := [.int (nI (k))]) (rest := []) (d2 := 0) dX5_partsOfUnit_20 ha (vA_lt hva 0 (by decide)) (vA_0 hva) zz_clX9 zc_X5_224 zs_X9_isPerfect rfl rfl (Nat.le_of_ble_eq_true rfl) (Nat.le_of_ble_eq_true rfl) (by decide) (cv_isPerfect ha hva hrq.2.2.2.1 hrq.2.2.2.2.1 (by omega)) ?_
  refine mn_ifB_eq (tgt := 43) dX5_partsOfUnit_23 (by decide) (fun c23 => ?_) (fun c23 => ?_)
  · refine mm_iload dX5_partsOfUnit_43 6 rfl ?_
    refine mm_istore (L' := [(7, .int (nI (t))), (6, .int (nI ((2) * (fl_ sg (k + 1))))), (5, .int (nI (fl_ sg k))), (0, .ref (o + 3)), (1, .ref (o + a)), (2, .int (nI (4))), (3, .int (nI (k))), (4, .int (nI (t)))]) dX5_partsOfUnit_45 (by decide) rfl ?_
    refine mm_iload_n dX5_partsOfUnit_47 rfl 5 rfl ?_
    refine mm_tableIn (off := 80) (tgt := 128) dX5_partsOfUnit_48 (by decide) (by decide) rfl (by decide) ?_
    refine mm_aload_n dX5_partsOfUnit_128 rfl 3 rfl ?_
    refine cm_getR (b := 4) dX5_partsOfUnit_129 ha zr_X5_14 (by decide) rfl rfl rfl ?_
    refine mm_iload_n dX5_partsOfUnit_132 rfl 6 rfl ?_
    refine mm_iconst (v := nI 1) dX5_partsOfUnit_133 (by decide) ?_
    refine mn_iadd dX5_partsOfUnit_134 ?_
    refine mm_aload_n dX5_partsOfUnit_135 rfl 3 rfl ?_
    refine cm_getR (b := 4) dX5_partsOfUnit_136 ha zr_X5_14 (by decide) rfl rfl rfl ?_
    refine mm_iload_n dX5_partsOfUnit_139 rfl 6 rfl ?_
    refine mm_iconst (v := nI 1) dX5_partsOfUnit_140 (by decide) ?_
    refine mn_iadd dX5_partsOfUnit_141 ?_
    refine mm_iload dX5_partsOfUnit_142 0 rfl ?_
    refine cm_callV (As := [.int (nI ((k) + (1))), .int (nI (t))]) (rest := [.int (nI ((k) + (1))), .ref (o + 4)]) (d2 := 1) dX5_partsOfUnit_144 ha (by decide) rfl zz_clX0 zc_X5_236 zs_X0_unit rfl rfl (Nat.le_of_ble_eq_true rfl) (Nat.le_of_ble_eq_true rfl) (by decide) (cc_unit ha hva hrq hm (by omega) hct (by omega) (by omega) (by omega)) (fun r h1 hq => ?_)
    obtain ⟨X2, rfl, ha, hf', hpq, hm, hct⟩ := hq
    have hf := hf.tr hf'
    have hrx := hrx.tr (hpq.rx (n := fs.length) (p := vs.length)) (by omega) (Nat.le_refl _) (Nat.le_refl _)
    have hrq := (hpq.rx (n := 0) (p := 0)).q (by omega) hva hrq
    have hdr := dr_x hdr (fun b i z => hpq b i (by omega))
    refine cm_callV (As := [.int (nI ((k) + (1))), .int (nI (m))]) (rest := []) (d2 := 1) dX5_partsOfUnit_147 ha (by decide) rfl zz_clX0 zc_X5_236 zs_X0_unit rfl rfl (Nat.le_of_ble_eq_true rfl) (Nat.le_of_ble_eq_true rfl) (by decide) (cc_unit ha hva hrq hm (by omega) hct (by omega) (by omega) (by omega)) (fun r h1 hq => ?_)
    obtain ⟨X3, rfl, ha, hf', hpq, hm, hct⟩ := hq
    have hf := hf.tr hf'
    have hrx := hrx.tr (hpq.rx (n := fs.length) (p := vs.length)) (by omega) (Nat.le_refl _) (Nat.le_refl _)
    have hrq := (hpq.rx (n := 0) (p := 0)).q (by omega) hva hrq
    have hdr := dr_x hdr (fun b i z => hpq b i (by omega))
    exact mm_iret dX5_partsOfUnit_150 rfl (⟨_, m + 1, rfl, ha, hf, hrx, hm, by omega, hct, by rw [List.append_nil]; exact hdr⟩)
  · rw [hpf] at c23
    cases c23
set_option maxRecDepth 100000 in
set_option maxHeartbeats 4000000 in
theorem cR_p5i {l : Launch} {D : va_G} {aa : Nat → ClassId} {b0 : Nat} {h : mm_H} {o : Nat} {X : Nat → Nat → Int32} {Y : Nat → Nat → Int64} {rl : Option Nat} {w : ro_w} {sg a dt : Nat} {E U P H PL RS CO AL LI : Nat → Nat} {m t k c : Nat} {r : List gK} {fs vs : List Nat} (ha : cm_at o X Y rl h) (hva : vA a) (hrq : rq_ X w sg a dt E U P H PL RS CO AL LI) (hm : X 4 6 = nI m) (hm8 : m + 1 ≤ 128) (hct : ct_ X w sg (gd_ sg) r t) (htm : t < m) (hdr : dr_ X fs vs c) (hpv : vs.length + 0 ≤ 24) (hk : k ≤ 6) (hpf : sp_perf sg k = false) (hg : (gd_ sg) ≤ k) (hk1 : k + 1 ≤ 6) : mm_V (zz_K l D aa b0) 2 yX5_partsOfUnit cX5_partsOfUnit 8 (some .int) 0 [(0, .ref (o + 3)), (1, .ref (o + a)), (2, .int (nI (5))), (3, .int (nI (k))), (4, .int (nI (t)))] [] h 0 0 (fun rv h' => ∃ (X' : Nat → Nat → Int32) (t' : Nat), rv = some (.int (nI t')) ∧ cm_at o X' Y rl h' ∧ cm_fr o h h' ∧ rx_ m fs.length vs.length X X' ∧ X' 4 6 = nI (m + 1) ∧ t' < m + 1 ∧ ct_ X' w sg (gd_ sg) ([(2, k + 1, 0)] ++ r) t' ∧ dr_ X' fs (vs ++ []) c) := by
  have hf := cm_fr.rf (o := o) (h := h)
  have hrx := rx_.rf (m := m) (n := fs.length) (p := vs.length) (X := X)
  have hfb := (fl_b sg hrq.2.2.2.2.1 k (by omega)).1
  refine mm_aload_n dX5_partsOfUnit_0 rfl 1 rfl ?_
  refine mm_iload_n dX5_partsOfUnit_1 rfl 3 rfl ?_
  refine cm_callVr (As := [.int (nI (k))]) (rest := []) (d2 := 1) dX5_partsOfUnit_2 ha (vA_lt hva 0 (by decide)) (vA_0 hva) zz_clX9 zc_X5_221 zs_X9_fullOf rfl rfl (Nat.le_of_ble_eq_true rfl) (Nat.le_of_ble_eq_true rfl) (by decide) (cv_fullOf ha hva hrq.2.2.2.2.2.2 (by omega)) ?_
  refine mn_top (u := .int (nI (fl_ sg k))) (congrArg Value.int (by rw [if_pos (by omega)])) ?_
  refine mm_istore (L' := [(5, .int (nI (fl_ sg k))), (0, .ref (o + 3)), (1, .ref (o + a)), (2, .int (nI (5))), (3, .int (nI (k))), (4, .int (nI (t)))]) dX5_partsOfUnit_5 (by decide) rfl ?_
  refine mm_iconst (v := nI 2) dX5_partsOfUnit_7 (by decide) ?_
  refine mm_aload_n dX5_partsOfUnit_8 rfl 2 rfl ?_
  refine mm_iload_n dX5_partsOfUnit_9 rfl 4 rfl ?_
  refine mm_iconst (v := nI 1) dX5_partsOfUnit_10 (by decide) ?_
  refine mn_iadd dX5_partsOfUnit_11 ?_
  refine cm_callVr (As := [.int (nI ((k) + (1)))]) (rest := [.int (nI (2))]) (d2 := 1) dX5_partsOfUnit_12 ha (vA_lt hva 0 (by decide)) (vA_0 hva) zz_clX9 zc_X5_221 zs_X9_fullOf rfl rfl (Nat.le_of_ble_eq_true rfl) (Nat.le_of_ble_eq_true rfl) (by decide) (cv_fullOf ha hva hrq.2.2.2.2.2.2 (by omega)) ?_
  refine mn_top (u := .int (nI (fl_ sg (k + 1)))) (congrArg Value.int (by rw [if_pos (by omega)])) ?_
  refine mn_imul dX5_partsOfUnit_15 ?_
  refine mm_istore (L' := [(6, .int (nI ((2) * (fl_ sg (k + 1))))), (5, .int (nI (fl_ sg k))), (0, .ref (o + 3)), (1, .ref (o + a)), (2, .int (nI (5))), (3, .int (nI (k))), (4, .int (nI (t)))]) dX5_partsOfUnit_16 (by decide) rfl ?_
  refine mm_aload_n dX5_partsOfUnit_18 rfl 3 rfl ?_
  refine mm_iload_n dX5_partsOfUnit_19 rfl 5 rfl ?_
  refine cm_callVr (As := [.int (nI (k))]) (rest := []) (d2 := 0) dX5_partsOfUnit_20 ha (vA_lt hva 0 (by decide)) (vA_0 hva) zz_clX9 zc_X5_224 zs_X9_isPerfect rfl rfl (Nat.le_of_ble_eq_true rfl) (Nat.le_of_ble_eq_true rfl) (by decide) (cv_isPerfect ha hva hrq.2.2.2.1 hrq.2.2.2.2.1 (by omega)) ?_
  refine mn_ifB_eq (tgt := 43) dX5_partsOfUnit_23 (by decide) (fun c23 => ?_) (fun c23 => ?_)
  · refine mm_iload dX5_partsOfUnit_43 6 rfl ?_
    refine mm_istore (L' := [(7, .int (nI (t))), (6, .int (nI ((2) * (fl_ sg (k + 1))))), (5, .int (nI (fl_ sg k))), (0, .ref (o + 3)), (1, .ref (o + a)), (2, .int (nI (5))), (3, .int (nI (k))), (4, .int (nI (t)))]) dX5_partsOfUnit_45 (by decide) rfl ?_
    refine mm_iload_n dX5_partsOfUnit_47 rfl 5 rfl ?_
    refine mm_tableIn (off := 103) (tgt := 151) dX5_partsOfUnit_48 (by decide) (by decide) rfl (by decide) ?_
    refine mm_aload_n dX5_partsOfUnit_151 rfl 3 rfl ?_
    refine cm_getR (b := 4) dX5_partsOfUnit_152 ha zr_X5_14 (by decide) rfl rfl rfl ?_
    refine mm_iload_n dX5_partsOfUnit_155 rfl 6 rfl ?_
    refine mm_iconst (v := nI 1) dX5_partsOfUnit_156 (by decide) ?_
    refine mn_iadd dX5_partsOfUnit_157 ?_
    refine mm_iload dX5_partsOfUnit_158 0 rfl ?_
    refine cm_callV (As := [.int (nI ((k) + (1))), .int (nI (t))]) (rest := []) (d2 := 1) dX5_partsOfUnit_160 ha (by decide) rfl zz_clX0 zc_X5_239 zs_X0_pair rfl rfl (Nat.le_of_ble_eq_true rfl) (Nat.le_of_ble_eq_true rfl) (by decide) (cc_pair ha hva hrq hm (by omega) hct (by omega) (by omega) (by omega)) (fun r h1 hq => ?_)
    obtain ⟨X2, rfl, ha, hf', hpq, hm, hct⟩ := hq
    have hf := hf.tr hf'
    have hrx := hrx.tr (hpq.rx (n := fs.length) (p := vs.length)) (by omega) (Nat.le_refl _) (Nat.le_refl _)
    have hrq := (hpq.rx (n := 0) (p := 0)).q (by omega) hva hrq
    have hdr := dr_x hdr (fun b i z => hpq b i (by omega))
    exact mm_iret dX5_partsOfUnit_163 rfl (⟨_, m, rfl, ha, hf, hrx, hm, by omega, hct, by rw [List.append_nil]; exact hdr⟩)
  · rw [hpf] at c23
    cases c23
set_option maxRecDepth 100000 in
set_option maxHeartbeats 4000000 in
theorem cR_p6p {l : Launch} {D : va_G} {aa : Nat → ClassId} {b0 : Nat} {h : mm_H} {o : Nat} {X : Nat → Nat → Int32} {Y : Nat → Nat → Int64} {rl : Option Nat} {w : ro_w} {sg a dt : Nat} {E U P H PL RS CO AL LI : Nat → Nat} {m t k c : Nat} {r : List gK} {fs vs : List Nat} (ha : cm_at o X Y rl h) (hva : vA a) (hrq : rq_ X w sg a dt E U P H PL RS CO AL LI) (hm : X 4 6 = nI m) (hm8 : m + 4 ≤ 128) (hct : ct_ X w sg (gd_ sg) r t) (htm : t < m) (hdr : dr_ X fs vs c) (hpv : vs.length + 0 ≤ 24) (hk : k ≤ 6) (hpf : sp_perf sg k = true) (hg : (gd_ sg) ≤ k) (hk1 : k + 1 ≤ 6) : mm_V (zz_K l D aa b0) 2 yX5_partsOfUnit cX5_partsOfUnit 8 (some .int) 0 [(0, .ref (o + 3)), (1, .ref (o + a)), (2, .int (nI (6))), (3, .int (nI (k))), (4, .int (nI (t)))] [] h 0 0 (fun rv h' => ∃ (X' : Nat → Nat → Int32) (t' : Nat), rv = some (.int (nI t')) ∧ cm_at o X' Y rl h' ∧ cm_fr o h h' ∧ rx_ m fs.length vs.length X X' ∧ X' 4 6 = nI (m + 4) ∧ t' < m + 4 ∧ ct_ X' w sg (gd_ sg) ([(1, k + 1, 0), (1, k + 1, 0), (1, k + 1, 0), (6, k, 0)] ++ r) t' ∧ dr_ X' fs (vs ++ []) c) := by
  have hf := cm_fr.rf (o := o) (h := h)
  have hrx := rx_.rf (m := m) (n := fs.length) (p := vs.length) (X := X)
  have hfb := (fl_b sg hrq.2.2.2.2.1 k (by omega)).1
  refine mm_aload_n dX5_partsOfUnit_0 rfl 1 rfl ?_
  refine mm_iload_n dX5_partsOfUnit_1 rfl 3 rfl ?_
  refine cm_callVr (As := [.int (nI (k))]) (rest := []) (d2 := 1) dX5_partsOfUnit_2 ha (vA_lt hva 0 (by decide)) (vA_0 hva) zz_clX9 zc_X5_221 zs_X9_fullOf rfl rfl (Nat.le_of_ble_eq_true rfl) (Nat.le_of_ble_eq_true rfl) (by decide) (cv_fullOf ha hva hrq.2.2.2.2.2.2 (by omega)) ?_
  refine mn_top (u := .int (nI (fl_ sg k))) (congrArg Value.int (by rw [if_pos (by omega)])) ?_
  refine mm_istore (L' := [(5, .int (nI (fl_ sg k))), (0, .ref (o + 3)), (1, .ref (o + a)), (2, .int (nI (6))), (3, .int (nI (k))), (4, .int (nI (t)))]) dX5_partsOfUnit_5 (by decide) rfl ?_
  refine mm_iconst (v := nI 2) dX5_partsOfUnit_7 (by decide) ?_
  refine mm_aload_n dX5_partsOfUnit_8 rfl 2 rfl ?_
  refine mm_iload_n dX5_partsOfUnit_9 rfl 4 rfl ?_
  refine mm_iconst (v := nI 1) dX5_partsOfUnit_10 (by decide) ?_
  refine mn_iadd dX5_partsOfUnit_11 ?_
  refine cm_callVr (As := [.int (nI ((k) + (1)))]) (rest := [.int (nI (2))]) (d2 := 1) dX5_partsOfUnit_12 ha (vA_lt hva 0 (by decide)) (vA_0 hva) zz_clX9 zc_X5_221 zs_X9_fullOf rfl rfl (Nat.le_of_ble_eq_true rfl) (Nat.le_of_ble_eq_true rfl) (by decide) (cv_fullOf ha hva hrq.2.2.2.2.2.2 (by omega)) ?_
  refine mn_top (u := .int (nI (fl_ sg (k + 1)))) (congrArg Value.int (by rw [if_pos (by omega)])) ?_
  refine mn_imul dX5_partsOfUnit_15 ?_
  refine mm_istore (L' := [(6, .int (nI ((2) * (fl_ sg (k + 1))))), (5, .int (nI (fl_ sg k))), (0, .ref (o + 3)), (1, .ref (o + a)), (2, .int (nI (6))), (3, .int (nI (k))), (4, .int (nI (t)))]) dX5_partsOfUnit_16 (by decide) rfl ?_
  refine mm_aload_n dX5_partsOfUnit_18 rfl 3 rfl ?_
  refine mm_iload_n dX5_partsOfUnit_19 rfl 5 rfl ?_
  refine cm_callVr (As := [.int (nI (k))]) (rest := []) (d2 := 0) dX5_partsOfUnit_20 ha (vA_lt hva 0 (by decide)) (vA_0 hva) zz_clX9 zc_X5_224 zs_X9_isPerfect rfl rfl (Nat.le_of_ble_eq_true rfl) (Nat.le_of_ble_eq_true rfl) (by decide) (cv_isPerfect ha hva hrq.2.2.2.1 hrq.2.2.2.2.1 (by omega)) ?_
  refine mn_ifB_eq (tgt := 43) dX5_partsOfUnit_23 (by decide) (fun c23 => ?_) (fun c23 => ?_)
  · rw [hpf] at c23
    cases c23
  · refine mm_iload_n dX5_partsOfUnit_26 rfl 4 rfl ?_
    refine mm_iconst (v := nI 3) dX5_partsOfUnit_27 (by decide) ?_
    refine mn_icmp_eq (tgt := 43) dX5_partsOfUnit_28 (by decide) (by omega) (by omega) (fun c28 => ?_) (fun c28 => ?_)
    · exact absurd c28 (by decide)
    · refine mm_aload_n dX5_partsOfUnit_31 rfl 2 rfl ?_
      refine cm_getR (b := 4) dX5_partsOfUnit_32 ha zr_X5_14 (by decide) rfl rfl rfl ?_
      refine mm_iload dX5_partsOfUnit_35 6 rfl ?_
      refine cm_callV (As := [.int (nI (t))]) (rest := []) (d2 := 1) dX5_partsOfUnit_37 ha (by decide) rfl zz_clX0 zc_X5_227 zs_X0_divide rfl rfl (Nat.le_of_ble_eq_true rfl) (Nat.le_of_ble_eq_true rfl) (by decide) (cc_divide ha hva hrq hm (by omega) hct (by omega) (k := k)) (fun r h1 hq => ?_)
      obtain ⟨X2, rfl, ha, hf', hpq, hm, hct⟩ := hq
      have hf := hf.tr hf'
      have hrx := hrx.tr (hpq.rx (n := fs.length) (p := vs.length)) (by omega) (Nat.le_refl _) (Nat.le_refl _)
      have hrq := (hpq.rx (n := 0) (p := 0)).q (by omega) hva hrq
      have hdr := dr_x hdr (fun b i z => hpq b i (by omega))
      refine mm_goto (tgt := 45) dX5_partsOfUnit_40 (by decide) ?_
      refine mm_istore (L' := [(7, .int (nI (m))), (6, .int (nI ((2) * (fl_ sg (k + 1))))), (5, .int (nI (fl_ sg k))), (0, .ref (o + 3)), (1, .ref (o + a)), (2, .int (nI (6))), (3, .int (nI (k))), (4, .int (nI (t)))]) dX5_partsOfUnit_45 (by decide) rfl ?_
      refine mm_iload_n dX5_partsOfUnit_47 rfl 5 rfl ?_
      refine mm_tableIn (off := 116) (tgt := 164) dX5_partsOfUnit_48 (by decide) (by decide) rfl (by decide) ?_
      refine mm_aload_n dX5_partsOfUnit_164 rfl 3 rfl ?_
      refine cm_getR (b := 4) dX5_partsOfUnit_165 ha zr_X5_14 (by decide) rfl rfl rfl ?_
      refine mm_iload_n dX5_partsOfUnit_168 rfl 6 rfl ?_
      refine mm_iconst (v := nI 1) dX5_partsOfUnit_169 (by decide) ?_
      refine mn_iadd dX5_partsOfUnit_170 ?_
      refine mm_aload_n dX5_partsOfUnit_171 rfl 3 rfl ?_
      refine cm_getR (b := 4) dX5_partsOfUnit_172 ha zr_X5_14 (by decide) rfl rfl rfl ?_
      refine mm_iload_n dX5_partsOfUnit_175 rfl 6 rfl ?_
      refine mm_iconst (v := nI 1) dX5_partsOfUnit_176 (by decide) ?_
      refine mn_iadd dX5_partsOfUnit_177 ?_
      refine mm_aload_n dX5_partsOfUnit_178 rfl 3 rfl ?_
      refine cm_getR (b := 4) dX5_partsOfUnit_179 ha zr_X5_14 (by decide) rfl rfl rfl ?_
      refine mm_iload_n dX5_partsOfUnit_182 rfl 6 rfl ?_
      refine mm_iconst (v := nI 1) dX5_partsOfUnit_183 (by decide) ?_
      refine mn_iadd dX5_partsOfUnit_184 ?_
      refine mm_iload dX5_partsOfUnit_185 0 rfl ?_
      refine cm_callV (As := [.int (nI ((k) + (1))), .int (nI (m))]) (rest := [.int (nI ((k) + (1))), .ref (o + 4), .int (nI ((k) + (1))), .ref (o + 4)]) (d2 := 1) dX5_partsOfUnit_187 ha (by decide) rfl zz_clX0 zc_X5_236 zs_X0_unit rfl rfl (Nat.le_of_ble_eq_true rfl) (Nat.le_of_ble_eq_true rfl) (by decide) (cc_unit ha hva hrq hm (by omega) hct (by omega) (by omega) (by omega)) (fun r h1 hq => ?_)
      obtain ⟨X3, rfl, ha, hf', hpq, hm, hct⟩ := hq
      have hf := hf.tr hf'
      have hrx := hrx.tr (hpq.rx (n := fs.length) (p := vs.length)) (by omega) (Nat.le_refl _) (Nat.le_refl _)
      have hrq := (hpq.rx (n := 0) (p := 0)).q (by omega) hva hrq
      have hdr := dr_x hdr (fun b i z => hpq b i (by omega))
      refine cm_callV (As := [.int (nI ((k) + (1))), .int (nI (m + 1))]) (rest := [.int (nI ((k) + (1))), .ref (o + 4)]) (d2 := 1) dX5_partsOfUnit_190 ha (by decide) rfl zz_clX0 zc_X5_236 zs_X0_unit rfl rfl (Nat.le_of_ble_eq_true rfl) (Nat.le_of_ble_eq_true rfl) (by decide) (cc_unit ha hva hrq hm (by omega) hct (by omega) (by omega) (by omega)) (fun r h1 hq => ?_)
      obtain ⟨X4, rfl, ha, hf', hpq, hm, hct⟩ := hq
      have hf := hf.tr hf'
      have hrx := hrx.tr (hpq.rx (n := fs.length) (p := vs.length)) (by omega) (Nat.le_refl _) (Nat.le_refl _)
      have hrq := (hpq.rx (n := 0) (p := 0)).q (by omega) hva hrq
      have hdr := dr_x hdr (fun b i z => hpq b i (by omega))
      refine cm_callV (As := [.int (nI ((k) + (1))), .int (nI (m + 1 + 1))]) (rest := []) (d2 := 1) dX5_partsOfUnit_193 ha (by decide) rfl zz_clX0 zc_X5_236 zs_X0_unit rfl rfl (Nat.le_of_ble_eq_true rfl) (Nat.le_of_ble_eq_true rfl) (by decide) (cc_unit ha hva hrq hm (by omega) hct (by omega) (by omega) (by omega)) (fun r h1 hq => ?_)
      obtain ⟨X5, rfl, ha, hf', hpq, hm, hct⟩ := hq
      have hf := hf.tr hf'
      have hrx := hrx.tr (hpq.rx (n := fs.length) (p := vs.length)) (by omega) (Nat.le_refl _) (Nat.le_refl _)
      have hrq := (hpq.rx (n := 0) (p := 0)).q (by omega) hva hrq
      have hdr := dr_x hdr (fun b i z => hpq b i (by omega))
      exact mm_iret dX5_partsOfUnit_196 rfl (⟨_, m + 1 + 1 + 1, rfl, ha, hf, hrx, hm, by omega, hct, by rw [List.append_nil]; exact hdr⟩)
set_option maxRecDepth 100000 in
set_option maxHeartbeats 4000000 in
theorem cR_p7p {l : Launch} {D : va_G} {aa : Nat → ClassId} {b0 : Nat} {h : mm_H} {o : Nat} {X : Nat → Nat → Int32} {Y : Nat → Nat → Int64} {rl : Option Nat} {w : ro_w} {sg a dt : Nat} {E U P H PL RS CO AL LI : Nat → Nat} {m t k c : Nat} {r : List gK} {fs vs : List Nat} (ha : cm_at o X Y rl h) (hva : vA a) (hrq : rq_ X w sg a dt E U P H PL RS CO AL LI) (hm : X 4 6 = nI m) (hm8 : m + 2 ≤ 128) (hct : ct_ X w sg (gd_ sg) r t) (htm : t < m) (hdr : dr_ X fs vs c) (hpv : vs.length + 1 ≤ 24) (hk : k ≤ 6) (hpf : sp_perf sg k = true) (hg : (gd_ sg) ≤ k) (hk1 : k + 1 ≤ 6) : mm_V (zz_K l D aa b0) 2 yX5_partsOfUnit cX5_partsOfUnit 8 (some .int) 0 [(0, .ref (o + 3)), (1, .ref (o + a)), (2, .int (nI (7))), (3, .int (nI (k))), (4, .int (nI (t)))] [] h 0 0 (fun rv h' => ∃ (X' : Nat → Nat → Int32) (t' : Nat), rv = some (.int (nI t')) ∧ cm_at o X' Y rl h' ∧ cm_fr o h h' ∧ rx_ m fs.length vs.length X X' ∧ X' 4 6 = nI (m + 2) ∧ t' < m + 2 ∧ ct_ X' w sg (gd_ sg) ([(1, k + 1, 0), (6, k, 0)] ++ r) t' ∧ dr_ X' fs (vs ++ [2 * fl_ sg (k + 1)]) c) := by
  have hf := cm_fr.rf (o := o) (h := h)
  have hrx := rx_.rf (m := m) (n := fs.length) (p := vs.length) (X := X)
  have hfb := (fl_b sg hrq.2.2.2.2.1 k (by omega)).1
  refine mm_aload_n dX5_partsOfUnit_0 rfl 1 rfl ?_
  refine mm_iload_n dX5_partsOfUnit_1 rfl 3 rfl ?_
  refine cm_callVr (As := [.int (nI (k))]) (rest := []) (d2 := 1) dX5_partsOfUnit_2 ha (vA_lt hva 0 (by decide)) (vA_0 hva) zz_clX9 zc_X5_221 zs_X9_fullOf rfl rfl (Nat.le_of_ble_eq_true rfl) (Nat.le_of_ble_eq_true rfl) (by decide) (cv_fullOf ha hva hrq.2.2.2.2.2.2 (by omega)) ?_
  refine mn_top (u := .int (nI (fl_ sg k))) (congrArg Value.int (by rw [if_pos (by omega)])) ?_
  refine mm_istore (L' := [(5, .int (nI (fl_ sg k))), (0, .ref (o + 3)), (1, .ref (o + a)), (2, .int (nI (7))), (3, .int (nI (k))), (4, .int (nI (t)))]) dX5_partsOfUnit_5 (by decide) rfl ?_
  refine mm_iconst (v := nI 2) dX5_partsOfUnit_7 (by decide) ?_
  refine mm_aload_n dX5_partsOfUnit_8 rfl 2 rfl ?_
  refine mm_iload_n dX5_partsOfUnit_9 rfl 4 rfl ?_
  refine mm_iconst (v := nI 1) dX5_partsOfUnit_10 (by decide) ?_
  refine mn_iadd dX5_partsOfUnit_11 ?_
  refine cm_callVr (As := [.int (nI ((k) + (1)))]) (rest := [.int (nI (2))]) (d2 := 1) dX5_partsOfUnit_12 ha (vA_lt hva 0 (by decide)) (vA_0 hva) zz_clX9 zc_X5_221 zs_X9_fullOf rfl rfl (Nat.le_of_ble_eq_true rfl) (Nat.le_of_ble_eq_true rfl) (by decide) (cv_fullOf ha hva hrq.2.2.2.2.2.2 (by omega)) ?_
  refine mn_top (u := .int (nI (fl_ sg (k + 1)))) (congrArg Value.int (by rw [if_pos (by omega)])) ?_
  refine mn_imul dX5_partsOfUnit_15 ?_
  refine mm_istore (L' := [(6, .int (nI ((2) * (fl_ sg (k + 1))))), (5, .int (nI (fl_ sg k))), (0, .ref (o + 3)), (1, .ref (o + a)), (2, .int (nI (7))), (3, .int (nI (k))), (4, .int (nI (t)))]) dX5_partsOfUnit_16 (by decide) rfl ?_
  refine mm_aload_n dX5_partsOfUnit_18 rfl 3 rfl ?_
  refine mm_iload_n dX5_partsOfUnit_19 rfl 5 rfl ?_
  refine cm_callVr (As := [.int (nI (k))]) (rest := []) (d2 := 0) dX5_partsOfUnit_20 ha (vA_lt hva 0 (by decide)) (vA_0 hva) zz_clX9 zc_X5_224 zs_X9_isPerfect rfl rfl (Nat.le_of_ble_eq_true rfl) (Nat.le_of_ble_eq_true rfl) (by decide) (cv_isPerfect ha hva hrq.2.2.2.1 hrq.2.2.2.2.1 (by omega)) ?_
  refine mn_ifB_eq (tgt := 43) dX5_partsOfUnit_23 (by decide) (fun c23 => ?_) (fun c23 => ?_)
  · rw [hpf] at c23
    cases c23
  · refine mm_iload_n dX5_partsOfUnit_26 rfl 4 rfl ?_
    refine mm_iconst (v := nI 3) dX5_partsOfUnit_27 (by decide) ?_
    refine mn_icmp_eq (tgt := 43) dX5_partsOfUnit_28 (by decide) (by omega) (by omega) (fun c28 => ?_) (fun c28 => ?_)
    · exact absurd c28 (by decide)
    · refine mm_aload_n dX5_partsOfUnit_31 rfl 2 rfl ?_
      refine cm_getR (b := 4) dX5_partsOfUnit_32 ha zr_X5_14 (by decide) rfl rfl rfl ?_
      refine mm_iload dX5_partsOfUnit_35 6 rfl ?_
      refine cm_callV (As := [.int (nI (t))]) (rest := []) (d2 := 1) dX5_partsOfUnit_37 ha (by decide) rfl zz_clX0 zc_X5_227 zs_X0_divide rfl rfl (Nat.le_of_ble_eq_true rfl) (Nat.le_of_ble_eq_true rfl) (by decide) (cc_divide ha hva hrq hm (by omega) hct (by omega) (k := k)) (fun r h1 hq => ?_)
      obtain ⟨X2, rfl, ha, hf', hpq, hm, hct⟩ := hq
      have hf := hf.tr hf'
      have hrx := hrx.tr (hpq.rx (n := fs.length) (p := vs.length)) (by omega) (Nat.le_refl _) (Nat.le_refl _)
      have hrq := (hpq.rx (n := 0) (p := 0)).q (by omega) hva hrq
      have hdr := dr_x hdr (fun b i z => hpq b i (by omega))
      refine mm_goto (tgt := 45) dX5_partsOfUnit_40 (by decide) ?_
      refine mm_istore (L' := [(7, .int (nI (m))), (6, .int (nI ((2) * (fl_ sg (k + 1))))), (5, .int (nI (fl_ sg k))), (0, .ref (o + 3)), (1, .ref (o + a)), (2, .int (nI (7))), (3, .int (nI (k))), (4, .int (nI (t)))]) dX5_partsOfUnit_45 (by decide) rfl ?_
      refine mm_iload_n dX5_partsOfUnit_47 rfl 5 rfl ?_
      refine mm_tableIn (off := 149) (tgt := 197) dX5_partsOfUnit_48 (by decide) (by decide) rfl (by decide) ?_
      refine mm_aload_n dX5_partsOfUnit_197 rfl 3 rfl ?_
      refine cm_getR (b := 25) dX5_partsOfUnit_198 ha zr_X5_28 (by decide) rfl rfl rfl ?_
      refine mm_iload dX5_partsOfUnit_201 1 rfl ?_
      refine cm_callV (As := [.int (nI ((2) * (fl_ sg (k + 1))))]) (rest := []) (d2 := 0) dX5_partsOfUnit_203 ha (by decide) rfl zz_clX1 zc_X5_230 zs_X1_take rfl rfl (Nat.le_of_ble_eq_true rfl) (Nat.le_of_ble_eq_true rfl) (by decide) (cd_take ha hdr.1.2.2.1 (by omega)) (fun r h1 hq => ?_)
      obtain ⟨rfl, ha, hf'⟩ := hq
      have hf := hf.tr hf'
      obtain ⟨X3, ha, hrx', hdr, hlo⟩ := tk_pack ha hdr
      have hrx := hrx.tr (hrx' m) (by omega) (Nat.le_refl _) (by first | exact Nat.le_refl _ | (rw [List.length_append]; omega))
      have hrq := (hrx' m).q (by omega) hva hrq
      have hct := ct_x hct (fun b i h1 h2 h3 => hlo b i (by omega))
      have hm := (hlo 4 6 (by decide)).trans hm
      refine mm_aload_n dX5_partsOfUnit_206 rfl 3 rfl ?_
      refine cm_getR (b := 4) dX5_partsOfUnit_207 ha zr_X5_14 (by decide) rfl rfl rfl ?_
      refine mm_iload_n dX5_partsOfUnit_210 rfl 6 rfl ?_
      refine mm_iconst (v := nI 1) dX5_partsOfUnit_211 (by decide) ?_
      refine mn_iadd dX5_partsOfUnit_212 ?_
      refine mm_iload dX5_partsOfUnit_213 0 rfl ?_
      refine cm_callV (As := [.int (nI ((k) + (1))), .int (nI (m))]) (rest := []) (d2 := 1) dX5_partsOfUnit_215 ha (by decide) rfl zz_clX0 zc_X5_236 zs_X0_unit rfl rfl (Nat.le_of_ble_eq_true rfl) (Nat.le_of_ble_eq_true rfl) (by decide) (cc_unit ha hva hrq hm (by omega) hct (by omega) (by omega) (by omega)) (fun r h1 hq => ?_)
      obtain ⟨X4, rfl, ha, hf', hpq, hm, hct⟩ := hq
      have hf := hf.tr hf'
      have hrx := hrx.tr (hpq.rx (n := fs.length) (p := vs.length)) (by omega) (Nat.le_refl _) (Nat.le_refl _)
      have hrq := (hpq.rx (n := 0) (p := 0)).q (by omega) hva hrq
      have hdr := dr_x hdr (fun b i z => hpq b i (by omega))
      exact mm_iret dX5_partsOfUnit_218 rfl (⟨_, m + 1, rfl, ha, hf, hrx, hm, by omega, hct, hdr⟩)
set_option maxRecDepth 100000 in
set_option maxHeartbeats 4000000 in
theorem cR_p8p {l : Launch} {D : va_G} {aa : Nat → ClassId} {b0 : Nat} {h : mm_H} {o : Nat} {X : Nat → Nat → Int32} {Y : Nat → Nat → Int64} {rl : Option Nat} {w : ro_w} {sg a dt : Nat} {E U P H PL RS CO AL LI : Nat → Nat} {m t k c : Nat} {r : List gK} {fs vs : List Nat} (ha : cm_at o X Y rl h) (hva : vA a) (hrq : rq_ X w sg a dt E U P H PL RS CO AL LI) (hm : X 4 6 = nI m) (hm8 : m + 3 ≤ 128) (hct : ct_ X w sg (gd_ sg) r t) (htm : t < m) (hdr : dr_ X fs vs c) (hpv : vs.length + 0 ≤ 24) (hk : k ≤ 6) (hpf : sp_perf sg k = true) (hg : (gd_ sg) ≤ k) (hk1 : k + 1 ≤ 6) : mm_V (zz_K l D aa b0) 2 yX5_partsOfUnit cX5_partsOfUnit 8 (some .int) 0 [(0, .ref (o + 3)), (1, .ref (o + a)), (2, .int (nI (8))), (3, .int (nI (k))), (4, .int (nI (t)))] [] h 0 0 (fun rv h' => ∃ (X' : Nat → Nat → Int32) (t' : Nat), rv = some (.int (nI t')) ∧ cm_at o X' Y rl h' ∧ cm_fr o h h' ∧ rx_ m fs.length vs.length X X' ∧ X' 4 6 = nI (m + 3) ∧ t' < m + 3 ∧ ct_ X' w sg (gd_ sg) ([(1, k + 1, 0), (4, k + 1, 2 * fl_ sg (k + 1)), (6, k, 0)] ++ r) t' ∧ dr_ X' fs (vs ++ []) c) := by
  have hf := cm_fr.rf (o := o) (h := h)
  have hrx := rx_.rf (m := m) (n := fs.length) (p := vs.length) (X := X)
  have hfb := (fl_b sg hrq.2.2.2.2.1 k (by omega)).1
  refine mm_aload_n dX5_partsOfUnit_0 rfl 1 rfl ?_
  refine mm_iload_n dX5_partsOfUnit_1 rfl 3 rfl ?_
  refine cm_callVr (As := [.int (nI (k))]) (rest := []) (d2 := 1) dX5_partsOfUnit_2 ha (vA_lt hva 0 (by decide)) (vA_0 hva) zz_clX9 zc_X5_221 zs_X9_fullOf rfl rfl (Nat.le_of_ble_eq_true rfl) (Nat.le_of_ble_eq_true rfl) (by decide) (cv_fullOf ha hva hrq.2.2.2.2.2.2 (by omega)) ?_
  refine mn_top (u := .int (nI (fl_ sg k))) (congrArg Value.int (by rw [if_pos (by omega)])) ?_
  refine mm_istore (L' := [(5, .int (nI (fl_ sg k))), (0, .ref (o + 3)), (1, .ref (o + a)), (2, .int (nI (8))), (3, .int (nI (k))), (4, .int (nI (t)))]) dX5_partsOfUnit_5 (by decide) rfl ?_
  refine mm_iconst (v := nI 2) dX5_partsOfUnit_7 (by decide) ?_
  refine mm_aload_n dX5_partsOfUnit_8 rfl 2 rfl ?_
  refine mm_iload_n dX5_partsOfUnit_9 rfl 4 rfl ?_
  refine mm_iconst (v := nI 1) dX5_partsOfUnit_10 (by decide) ?_
  refine mn_iadd dX5_partsOfUnit_11 ?_
  refine cm_callVr (As := [.int (nI ((k) + (1)))]) (rest := [.int (nI (2))]) (d2 := 1) dX5_partsOfUnit_12 ha (vA_lt hva 0 (by decide)) (vA_0 hva) zz_clX9 zc_X5_221 zs_X9_fullOf rfl rfl (Nat.le_of_ble_eq_true rfl) (Nat.le_of_ble_eq_true rfl) (by decide) (cv_fullOf ha hva hrq.2.2.2.2.2.2 (by omega)) ?_
  refine mn_top (u := .int (nI (fl_ sg (k + 1)))) (congrArg Value.int (by rw [if_pos (by omega)])) ?_
  refine mn_imul dX5_partsOfUnit_15 ?_
  refine mm_istore (L' := [(6, .int (nI ((2) * (fl_ sg (k + 1))))), (5, .int (nI (fl_ sg k))), (0, .ref (o + 3)), (1, .ref (o + a)), (2, .int (nI (8))), (3, .int (nI (k))), (4, .int (nI (t)))]) dX5_partsOfUnit_16 (by decide) rfl ?_
  refine mm_aload_n dX5_partsOfUnit_18 rfl 3 rfl ?_
  refine mm_iload_n dX5_partsOfUnit_19 rfl 5 rfl ?_
  refine cm_callVr (As := [.int (nI (k))]) (rest := []) (d2 := 0) dX5_partsOfUnit_20 ha (vA_lt hva 0 (by decide)) (vA_0 hva) zz_clX9 zc_X5_224 zs_X9_isPerfect rfl rfl (Nat.le_of_ble_eq_true rfl) (Nat.le_of_ble_eq_true rfl) (by decide) (cv_isPerfect ha hva hrq.2.2.2.1 hrq.2.2.2.2.1 (by omega)) ?_
  refine mn_ifB_eq (tgt := 43) dX5_partsOfUnit_23 (by decide) (fun c23 => ?_) (fun c23 => ?_)
  · rw [hpf] at c23
    cases c23
  · refine mm_iload_n dX5_partsOfUnit_26 rfl 4 rfl ?_
    refine mm_iconst (v := nI 3) dX5_partsOfUnit_27 (by decide) ?_
    refine mn_icmp_eq (tgt := 43) dX5_partsOfUnit_28 (by decide) (by omega) (by omega) (fun c28 => ?_) (fun c28 => ?_)
    · exact absurd c28 (by decide)
    · refine mm_aload_n dX5_partsOfUnit_31 rfl 2 rfl ?_
      refine cm_getR (b := 4) dX5_partsOfUnit_32 ha zr_X5_14 (by decide) rfl rfl rfl ?_
      refine mm_iload dX5_partsOfUnit_35 6 rfl ?_
      refine cm_callV (As := [.int (nI (t))]) (rest := []) (d2 := 1) dX5_partsOfUnit_37 ha (by decide) rfl zz_clX0 zc_X5_227 zs_X0_divide rfl rfl (Nat.le_of_ble_eq_true rfl) (Nat.le_of_ble_eq_true rfl) (by decide) (cc_divide ha hva hrq hm (by omega) hct (by omega) (k := k)) (fun r h1 hq => ?_)
      obtain ⟨X2, rfl, ha, hf', hpq, hm, hct⟩ := hq
      have hf := hf.tr hf'
      have hrx := hrx.tr (hpq.rx (n := fs.length) (p := vs.length)) (by omega) (Nat.le_refl _) (Nat.le_refl _)
      have hrq := (hpq.rx (n := 0) (p := 0)).q (by omega) hva hrq
      have hdr := dr_x hdr (fun b i z => hpq b i (by omega))
      refine mm_goto (tgt := 45) dX5_partsOfUnit_40 (by decide) ?_
      refine mm_istore (L' := [(7, .int (nI (m))), (6, .int (nI ((2) * (fl_ sg (k + 1))))), (5, .int (nI (fl_ sg k))), (0, .ref (o + 3)), (1, .ref (o + a)), (2, .int (nI (8))), (3, .int (nI (k))), (4, .int (nI (t)))]) dX5_partsOfUnit_45 (by decide) rfl ?_
      refine mm_iload_n dX5_partsOfUnit_47 rfl 5 rfl ?_
      refine mm_tableIn (off := 171) (tgt := 219) dX5_partsOfUnit_48 (by decide) (by decide) rfl (by decide) ?_
      refine mm_aload_n dX5_partsOfUnit_219 rfl 3 rfl ?_
      refine cm_getR (b := 4) dX5_partsOfUnit_220 ha zr_X5_14 (by decide) rfl rfl rfl ?_
      refine mm_iload_n dX5_partsOfUnit_223 rfl 6 rfl ?_
      refine mm_iconst (v := nI 1) dX5_partsOfUnit_224 (by decide) ?_
      refine mn_iadd dX5_partsOfUnit_225 ?_
      refine mm_aload_n dX5_partsOfUnit_226 rfl 3 rfl ?_
      refine cm_getR (b := 4) dX5_partsOfUnit_227 ha zr_X5_14 (by decide) rfl rfl rfl ?_
      refine mm_aload_n dX5_partsOfUnit_230 rfl 3 rfl ?_
      refine cm_getR (b := 4) dX5_partsOfUnit_231 ha zr_X5_14 (by decide) rfl rfl rfl ?_
      refine cm_getR (b := 10) dX5_partsOfUnit_234 ha zr_X5_54 (by decide) rfl rfl rfl ?_
      refine mm_iload_n dX5_partsOfUnit_237 rfl 6 rfl ?_
      refine mm_iconst (v := nI 1) dX5_partsOfUnit_238 (by decide) ?_
      refine mn_iadd dX5_partsOfUnit_239 ?_
      refine cm_callVr (As := [.int (nI ((k) + (1)))]) (rest := [.ref (o + 4), .int (nI ((k) + (1))), .ref (o + 4)]) (d2 := 1) dX5_partsOfUnit_240 ha (by decide) rfl zz_clX7 zc_X5_242 zs_X7_alteredOf rfl rfl (Nat.le_of_ble_eq_true rfl) (Nat.le_of_ble_eq_true rfl) (by decide) (cs_alteredOf (dt := 0) ha hrq.1.1.2.2.1.2.2.2.1 (by omega)) ?_
      refine mn_top (u := .int (nI (AL (k + 1)))) (congrArg Value.int (by rw [if_pos (by omega)])) ?_
      refine mm_iload dX5_partsOfUnit_243 1 rfl ?_
      refine mm_iload dX5_partsOfUnit_245 0 rfl ?_
      refine cm_callV (As := [.int (nI (AL (k + 1))), .int (nI ((2) * (fl_ sg (k + 1)))), .int (nI (m))]) (rest := [.int (nI ((k) + (1))), .ref (o + 4)]) (d2 := 1) dX5_partsOfUnit_247 ha (by decide) rfl zz_clX0 zc_X5_245 zs_X0_take rfl rfl (Nat.le_of_ble_eq_true rfl) (Nat.le_of_ble_eq_true rfl) (by decide) (cc_take ha hva hrq hm (by omega) hct (by omega) (k := k + 1) (by omega)) (fun r h1 hq => ?_)
      obtain ⟨X3, rfl, ha, hf', hpq, hm, hct⟩ := hq
      have hf := hf.tr hf'
      have hrx := hrx.tr (hpq.rx (n := fs.length) (p := vs.length)) (by omega) (Nat.le_refl _) (Nat.le_refl _)
      have hrq := (hpq.rx (n := 0) (p := 0)).q (by omega) hva hrq
      have hdr := dr_x hdr (fun b i z => hpq b i (by omega))
      refine cm_callV (As := [.int (nI ((k) + (1))), .int (nI (m + 1))]) (rest := []) (d2 := 1) dX5_partsOfUnit_250 ha (by decide) rfl zz_clX0 zc_X5_236 zs_X0_unit rfl rfl (Nat.le_of_ble_eq_true rfl) (Nat.le_of_ble_eq_true rfl) (by decide) (cc_unit ha hva hrq hm (by omega) hct (by omega) (by omega) (by omega)) (fun r h1 hq => ?_)
      obtain ⟨X4, rfl, ha, hf', hpq, hm, hct⟩ := hq
      have hf := hf.tr hf'
      have hrx := hrx.tr (hpq.rx (n := fs.length) (p := vs.length)) (by omega) (Nat.le_refl _) (Nat.le_refl _)
      have hrq := (hpq.rx (n := 0) (p := 0)).q (by omega) hva hrq
      have hdr := dr_x hdr (fun b i z => hpq b i (by omega))
      exact mm_iret dX5_partsOfUnit_253 rfl (⟨_, m + 1 + 1, rfl, ha, hf, hrx, hm, by omega, hct, by rw [List.append_nil]; exact hdr⟩)
set_option maxRecDepth 100000 in
set_option maxHeartbeats 4000000 in
theorem cR_p9p {l : Launch} {D : va_G} {aa : Nat → ClassId} {b0 : Nat} {h : mm_H} {o : Nat} {X : Nat → Nat → Int32} {Y : Nat → Nat → Int64} {rl : Option Nat} {w : ro_w} {sg a dt : Nat} {E U P H PL RS CO AL LI : Nat → Nat} {m t k c : Nat} {r : List gK} {fs vs : List Nat} (ha : cm_at o X Y rl h) (hva : vA a) (hrq : rq_ X w sg a dt E U P H PL RS CO AL LI) (hm : X 4 6 = nI m) (hm8 : m + 3 ≤ 128) (hct : ct_ X w sg (gd_ sg) r t) (htm : t < m) (hdr : dr_ X fs vs c) (hpv : vs.length + 0 ≤ 24) (hk : k ≤ 6) (hpf : sp_perf sg k = true) (hg : (gd_ sg) ≤ k) (hk1 : k + 1 ≤ 6) : mm_V (zz_K l D aa b0) 2 yX5_partsOfUnit cX5_partsOfUnit 8 (some .int) 0 [(0, .ref (o + 3)), (1, .ref (o + a)), (2, .int (nI (9))), (3, .int (nI (k))), (4, .int (nI (t)))] [] h 0 0 (fun rv h' => ∃ (X' : Nat → Nat → Int32) (t' : Nat), rv = some (.int (nI t')) ∧ cm_at o X' Y rl h' ∧ cm_fr o h h' ∧ rx_ m fs.length vs.length X X' ∧ X' 4 6 = nI (m + 3) ∧ t' < m + 3 ∧ ct_ X' w sg (gd_ sg) ([(1, k + 1, 0), (7, k, 2 * fl_ sg (k + 1)), (6, k, 0)] ++ r) t' ∧ dr_ X' fs (vs ++ []) c) := by
  have hf := cm_fr.rf (o := o) (h := h)
  have hrx := rx_.rf (m := m) (n := fs.length) (p := vs.length) (X := X)
  have hfb := (fl_b sg hrq.2.2.2.2.1 k (by omega)).1
  refine mm_aload_n dX5_partsOfUnit_0 rfl 1 rfl ?_
  refine mm_iload_n dX5_partsOfUnit_1 rfl 3 rfl ?_
  refine cm_callVr (As := [.int (nI (k))]) (rest := []) (d2 := 1) dX5_partsOfUnit_2 ha (vA_lt hva 0 (by decide)) (vA_0 hva) zz_clX9 zc_X5_221 zs_X9_fullOf rfl rfl (Nat.le_of_ble_eq_true rfl) (Nat.le_of_ble_eq_true rfl) (by decide) (cv_fullOf ha hva hrq.2.2.2.2.2.2 (by omega)) ?_
  refine mn_top (u := .int (nI (fl_ sg k))) (congrArg Value.int (by rw [if_pos (by omega)])) ?_
  refine mm_istore (L' := [(5, .int (nI (fl_ sg k))), (0, .ref (o + 3)), (1, .ref (o + a)), (2, .int (nI (9))), (3, .int (nI (k))), (4, .int (nI (t)))]) dX5_partsOfUnit_5 (by decide) rfl ?_
  refine mm_iconst (v := nI 2) dX5_partsOfUnit_7 (by decide) ?_
  refine mm_aload_n dX5_partsOfUnit_8 rfl 2 rfl ?_
  refine mm_iload_n dX5_partsOfUnit_9 rfl 4 rfl ?_
  refine mm_iconst (v := nI 1) dX5_partsOfUnit_10 (by decide) ?_
  refine mn_iadd dX5_partsOfUnit_11 ?_
  refine cm_callVr (As := [.int (nI ((k) + (1)))]) (rest := [.int (nI (2))]) (d2 := 1) dX5_partsOfUnit_12 ha (vA_lt hva 0 (by decide)) (vA_0 hva) zz_clX9 zc_X5_221 zs_X9_fullOf rfl rfl (Nat.le_of_ble_eq_true rfl) (Nat.le_of_ble_eq_true rfl) (by decide) (cv_fullOf ha hva hrq.2.2.2.2.2.2 (by omega)) ?_
  refine mn_top (u := .int (nI (fl_ sg (k + 1)))) (congrArg Value.int (by rw [if_pos (by omega)])) ?_
  refine mn_imul dX5_partsOfUnit_15 ?_
  refine mm_istore (L' := [(6, .int (nI ((2) * (fl_ sg (k + 1))))), (5, .int (nI (fl_ sg k))), (0, .ref (o + 3)), (1, .ref (o + a)), (2, .int (nI (9))), (3, .int (nI (k))), (4, .int (nI (t)))]) dX5_partsOfUnit_16 (by decide) rfl ?_
  refine mm_aload_n dX5_partsOfUnit_18 rfl 3 rfl ?_
  refine mm_iload_n dX5_partsOfUnit_19 rfl 5 rfl ?_
  refine cm_callVr (As := [.int (nI (k))]) (rest := []) (d2 := 0) dX5_partsOfUnit_20 ha (vA_lt hva 0 (by decide)) (vA_0 hva) zz_clX9 zc_X5_224 zs_X9_isPerfect rfl rfl (Nat.le_of_ble_eq_true rfl) (Nat.le_of_ble_eq_true rfl) (by decide) (cv_isPerfect ha hva hrq.2.2.2.1 hrq.2.2.2.2.1 (by omega)) ?_
  refine mn_ifB_eq (tgt := 43) dX5_partsOfUnit_23 (by decide) (fun c23 => ?_) (fun c23 => ?_)
  · rw [hpf] at c23
    cases c23
  · refine mm_iload_n dX5_partsOfUnit_26 rfl 4 rfl ?_
    refine mm_iconst (v := nI 3) dX5_partsOfUnit_27 (by decide) ?_
    refine mn_icmp_eq (tgt := 43) dX5_partsOfUnit_28 (by decide) (by omega) (by omega) (fun c28 => ?_) (fun c28 => ?_)
    · exact absurd c28 (by decide)
    · refine mm_aload_n dX5_partsOfUnit_31 rfl 2 rfl ?_
      refine cm_getR (b := 4) dX5_partsOfUnit_32 ha zr_X5_14 (by decide) rfl rfl rfl ?_
      refine mm_iload dX5_partsOfUnit_35 6 rfl ?_
      refine cm_callV (As := [.int (nI (t))]) (rest := []) (d2 := 1) dX5_partsOfUnit_37 ha (by decide) rfl zz_clX0 zc_X5_227 zs_X0_divide rfl rfl (Nat.le_of_ble_eq_true rfl) (Nat.le_of_ble_eq_true rfl) (by decide) (cc_divide ha hva hrq hm (by omega) hct (by omega) (k := k)) (fun r h1 hq => ?_)
      obtain ⟨X2, rfl, ha, hf', hpq, hm, hct⟩ := hq
      have hf := hf.tr hf'
      have hrx := hrx.tr (hpq.rx (n := fs.length) (p := vs.length)) (by omega) (Nat.le_refl _) (Nat.le_refl _)
      have hrq := (hpq.rx (n := 0) (p := 0)).q (by omega) hva hrq
      have hdr := dr_x hdr (fun b i z => hpq b i (by omega))
      refine mm_goto (tgt := 45) dX5_partsOfUnit_40 (by decide) ?_
      refine mm_istore (L' := [(7, .int (nI (m))), (6, .int (nI ((2) * (fl_ sg (k + 1))))), (5, .int (nI (fl_ sg k))), (0, .ref (o + 3)), (1, .ref (o + a)), (2, .int (nI (9))), (3, .int (nI (k))), (4, .int (nI (t)))]) dX5_partsOfUnit_45 (by decide) rfl ?_
      refine mm_iload_n dX5_partsOfUnit_47 rfl 5 rfl ?_
      refine mm_tableIn (off := 206) (tgt := 254) dX5_partsOfUnit_48 (by decide) (by decide) rfl (by decide) ?_
      refine mm_aload_n dX5_partsOfUnit_254 rfl 3 rfl ?_
      refine cm_getR (b := 4) dX5_partsOfUnit_255 ha zr_X5_14 (by decide) rfl rfl rfl ?_
      refine mm_iload_n dX5_partsOfUnit_258 rfl 6 rfl ?_
      refine mm_iconst (v := nI 1) dX5_partsOfUnit_259 (by decide) ?_
      refine mn_iadd dX5_partsOfUnit_260 ?_
      refine mm_aload_n dX5_partsOfUnit_261 rfl 3 rfl ?_
      refine cm_getR (b := 4) dX5_partsOfUnit_262 ha zr_X5_14 (by decide) rfl rfl rfl ?_
      refine mm_aload_n dX5_partsOfUnit_265 rfl 3 rfl ?_
      refine cm_getR (b := 4) dX5_partsOfUnit_266 ha zr_X5_14 (by decide) rfl rfl rfl ?_
      refine cm_getR (b := 10) dX5_partsOfUnit_269 ha zr_X5_54 (by decide) rfl rfl rfl ?_
      refine mm_iload_n dX5_partsOfUnit_272 rfl 6 rfl ?_
      refine cm_callVr (As := [.int (nI (k))]) (rest := [.ref (o + 4), .int (nI ((k) + (1))), .ref (o + 4)]) (d2 := 1) dX5_partsOfUnit_273 ha (by decide) rfl zz_clX7 zc_X5_247 zs_X7_lateImperfectOf rfl rfl (Nat.le_of_ble_eq_true rfl) (Nat.le_of_ble_eq_true rfl) (by decide) (cs_lateImperfectOf (dt := 0) ha hrq.1.1.2.2.1.2.2.2.2 (by omega)) ?_
      refine mn_top (u := .int (nI (LI k))) (congrArg Value.int (by rw [if_pos (by omega)])) ?_
      refine mm_iload dX5_partsOfUnit_276 1 rfl ?_
      refine mm_iload dX5_partsOfUnit_278 0 rfl ?_
      refine cm_callV (As := [.int (nI (LI k)), .int (nI ((2) * (fl_ sg (k + 1)))), .int (nI (m))]) (rest := [.int (nI ((k) + (1))), .ref (o + 4)]) (d2 := 1) dX5_partsOfUnit_280 ha (by decide) rfl zz_clX0 zc_X5_245 zs_X0_take rfl rfl (Nat.le_of_ble_eq_true rfl) (Nat.le_of_ble_eq_true rfl) (by decide) (cc_late ha hva hrq hm (by omega) hct (by omega) (k := k) (by omega)) (fun r h1 hq => ?_)
      obtain ⟨X3, rfl, ha, hf', hpq, hm, hct⟩ := hq
      have hf := hf.tr hf'
      have hrx := hrx.tr (hpq.rx (n := fs.length) (p := vs.length)) (by omega) (Nat.le_refl _) (Nat.le_refl _)
      have hrq := (hpq.rx (n := 0) (p := 0)).q (by omega) hva hrq
      have hdr := dr_x hdr (fun b i z => hpq b i (by omega))
      refine cm_callV (As := [.int (nI ((k) + (1))), .int (nI (m + 1))]) (rest := []) (d2 := 1) dX5_partsOfUnit_283 ha (by decide) rfl zz_clX0 zc_X5_236 zs_X0_unit rfl rfl (Nat.le_of_ble_eq_true rfl) (Nat.le_of_ble_eq_true rfl) (by decide) (cc_unit ha hva hrq hm (by omega) hct (by omega) (by omega) (by omega)) (fun r h1 hq => ?_)
      obtain ⟨X4, rfl, ha, hf', hpq, hm, hct⟩ := hq
      have hf := hf.tr hf'
      have hrx := hrx.tr (hpq.rx (n := fs.length) (p := vs.length)) (by omega) (Nat.le_refl _) (Nat.le_refl _)
      have hrq := (hpq.rx (n := 0) (p := 0)).q (by omega) hva hrq
      have hdr := dr_x hdr (fun b i z => hpq b i (by omega))
      exact mm_iret dX5_partsOfUnit_286 rfl (⟨_, m + 1 + 1, rfl, ha, hf, hrx, hm, by omega, hct, by rw [List.append_nil]; exact hdr⟩)
set_option maxRecDepth 100000 in
set_option maxHeartbeats 4000000 in
theorem cR_p10p {l : Launch} {D : va_G} {aa : Nat → ClassId} {b0 : Nat} {h : mm_H} {o : Nat} {X : Nat → Nat → Int32} {Y : Nat → Nat → Int64} {rl : Option Nat} {w : ro_w} {sg a dt : Nat} {E U P H PL RS CO AL LI : Nat → Nat} {m t k c : Nat} {r : List gK} {fs vs : List Nat} (ha : cm_at o X Y rl h) (hva : vA a) (hrq : rq_ X w sg a dt E U P H PL RS CO AL LI) (hm : X 4 6 = nI m) (hm8 : m + 3 ≤ 128) (hct : ct_ X w sg (gd_ sg) r t) (htm : t < m) (hdr : dr_ X fs vs c) (hpv : vs.length + 0 ≤ 24) (hk : k ≤ 6) (hpf : sp_perf sg k = true) (hg : (gd_ sg) ≤ k) (hk1 : k + 1 ≤ 6) : mm_V (zz_K l D aa b0) 2 yX5_partsOfUnit cX5_partsOfUnit 8 (some .int) 0 [(0, .ref (o + 3)), (1, .ref (o + a)), (2, .int (nI (10))), (3, .int (nI (k))), (4, .int (nI (t)))] [] h 0 0 (fun rv h' => ∃ (X' : Nat → Nat → Int32) (t' : Nat), rv = some (.int (nI t')) ∧ cm_at o X' Y rl h' ∧ cm_fr o h h' ∧ rx_ m fs.length vs.length X X' ∧ X' 4 6 = nI (m + 3) ∧ t' < m + 3 ∧ ct_ X' w sg (gd_ sg) ([(1, k + 1, 0), (2, k + 1, 0), (6, k, 0)] ++ r) t' ∧ dr_ X' fs (vs ++ []) c) := by
  have hf := cm_fr.rf (o := o) (h := h)
  have hrx := rx_.rf (m := m) (n := fs.length) (p := vs.length) (X := X)
  have hfb := (fl_b sg hrq.2.2.2.2.1 k (by omega)).1
  refine mm_aload_n dX5_partsOfUnit_0 rfl 1 rfl ?_
  refine mm_iload_n dX5_partsOfUnit_1 rfl 3 rfl ?_
  refine cm_callVr (As := [.int (nI (k))]) (rest := []) (d2 := 1) dX5_partsOfUnit_2 ha (vA_lt hva 0 (by decide)) (vA_0 hva) zz_clX9 zc_X5_221 zs_X9_fullOf rfl rfl (Nat.le_of_ble_eq_true rfl) (Nat.le_of_ble_eq_true rfl) (by decide) (cv_fullOf ha hva hrq.2.2.2.2.2.2 (by omega)) ?_
  refine mn_top (u := .int (nI (fl_ sg k))) (congrArg Value.int (by rw [if_pos (by omega)])) ?_
  refine mm_istore (L' := [(5, .int (nI (fl_ sg k))), (0, .ref (o + 3)), (1, .ref (o + a)), (2, .int (nI (10))), (3, .int (nI (k))), (4, .int (nI (t)))]) dX5_partsOfUnit_5 (by decide) rfl ?_
  refine mm_iconst (v := nI 2) dX5_partsOfUnit_7 (by decide) ?_
  refine mm_aload_n dX5_partsOfUnit_8 rfl 2 rfl ?_
  refine mm_iload_n dX5_partsOfUnit_9 rfl 4 rfl ?_
  refine mm_iconst (v := nI 1) dX5_partsOfUnit_10 (by decide) ?_
  refine mn_iadd dX5_partsOfUnit_11 ?_
  refine cm_callVr (As := [.int (nI ((k) + (1)))]) (rest := [.int (nI (2))]) (d2 := 1) dX5_partsOfUnit_12 ha (vA_lt hva 0 (by decide)) (vA_0 hva) zz_clX9 zc_X5_221 zs_X9_fullOf rfl rfl (Nat.le_of_ble_eq_true rfl) (Nat.le_of_ble_eq_true rfl) (by decide) (cv_fullOf ha hva hrq.2.2.2.2.2.2 (by omega)) ?_
  refine mn_top (u := .int (nI (fl_ sg (k + 1)))) (congrArg Value.int (by rw [if_pos (by omega)])) ?_
  refine mn_imul dX5_partsOfUnit_15 ?_
  refine mm_istore (L' := [(6, .int (nI ((2) * (fl_ sg (k + 1))))), (5, .int (nI (fl_ sg k))), (0, .ref (o + 3)), (1, .ref (o + a)), (2, .int (nI (10))), (3, .int (nI (k))), (4, .int (nI (t)))]) dX5_partsOfUnit_16 (by decide) rfl ?_
  refine mm_aload_n dX5_partsOfUnit_18 rfl 3 rfl ?_
  refine mm_iload_n dX5_partsOfUnit_19 rfl 5 rfl ?_
  refine cm_callVr (As := [.int (nI (k))]) (rest := []) (d2 := 0) dX5_partsOfUnit_20 ha (vA_lt hva 0 (by decide)) (vA_0 hva) zz_clX9 zc_X5_224 zs_X9_isPerfect rfl rfl (Nat.le_of_ble_eq_true rfl) (Nat.le_of_ble_eq_true rfl) (by decide) (cv_isPerfect ha hva hrq.2.2.2.1 hrq.2.2.2.2.1 (by omega)) ?_
  refine mn_ifB_eq (tgt := 43) dX5_partsOfUnit_23 (by decide) (fun c23 => ?_) (fun c23 => ?_)
  · rw [hpf] at c23
    cases c23
  · refine mm_iload_n dX5_partsOfUnit_26 rfl 4 rfl ?_
    refine mm_iconst (v := nI 3) dX5_partsOfUnit_27 (by decide) ?_
    refine mn_icmp_eq (tgt := 43) dX5_partsOfUnit_28 (by decide) (by omega) (by omega) (fun c28 => ?_) (fun c28 => ?_)
    · exact absurd c28 (by decide)
    · refine mm_aload_n dX5_partsOfUnit_31 rfl 2 rfl ?_
      refine cm_getR (b := 4) dX5_partsOfUnit_32 ha zr_X5_14 (by decide) rfl rfl rfl ?_
      refine mm_iload dX5_partsOfUnit_35 6 rfl ?_
      refine cm_callV (As := [.int (nI (t))]) (rest := []) (d2 := 1) dX5_partsOfUnit_37 ha (by decide) rfl zz_clX0 zc_X5_227 zs_X0_divide rfl rfl (Nat.le_of_ble_eq_true rfl) (Nat.le_of_ble_eq_true rfl) (by decide) (cc_divide ha hva hrq hm (by omega) hct (by omega) (k := k)) (fun r h1 hq => ?_)
      obtain ⟨X2, rfl, ha, hf', hpq, hm, hct⟩ := hq
      have hf := hf.tr hf'
      have hrx := hrx.tr (hpq.rx (n := fs.length) (p := vs.length)) (by omega) (Nat.le_refl _) (Nat.le_refl _)
      have hrq := (hpq.rx (n := 0) (p := 0)).q (by omega) hva hrq
      have hdr := dr_x hdr (fun b i z => hpq b i (by omega))
      refine mm_goto (tgt := 45) dX5_partsOfUnit_40 (by decide) ?_
      refine mm_istore (L' := [(7, .int (nI (m))), (6, .int (nI ((2) * (fl_ sg (k + 1))))), (5, .int (nI (fl_ sg k))), (0, .ref (o + 3)), (1, .ref (o + a)), (2, .int (nI (10))), (3, .int (nI (k))), (4, .int (nI (t)))]) dX5_partsOfUnit_45 (by decide) rfl ?_
      refine mm_iload_n dX5_partsOfUnit_47 rfl 5 rfl ?_
      refine mm_tableIn (off := 239) (tgt := 287) dX5_partsOfUnit_48 (by decide) (by decide) rfl (by decide) ?_
      refine mm_aload_n dX5_partsOfUnit_287 rfl 3 rfl ?_
      refine cm_getR (b := 4) dX5_partsOfUnit_288 ha zr_X5_14 (by decide) rfl rfl rfl ?_
      refine mm_iload_n dX5_partsOfUnit_291 rfl 6 rfl ?_
      refine mm_iconst (v := nI 1) dX5_partsOfUnit_292 (by decide) ?_
      refine mn_iadd dX5_partsOfUnit_293 ?_
      refine mm_aload_n dX5_partsOfUnit_294 rfl 3 rfl ?_
      refine cm_getR (b := 4) dX5_partsOfUnit_295 ha zr_X5_14 (by decide) rfl rfl rfl ?_
      refine mm_iload_n dX5_partsOfUnit_298 rfl 6 rfl ?_
      refine mm_iconst (v := nI 1) dX5_partsOfUnit_299 (by decide) ?_
      refine mn_iadd dX5_partsOfUnit_300 ?_
      refine mm_iload dX5_partsOfUnit_301 0 rfl ?_
      refine cm_callV (As := [.int (nI ((k) + (1))), .int (nI (m))]) (rest := [.int (nI ((k) + (1))), .ref (o + 4)]) (d2 := 1) dX5_partsOfUnit_303 ha (by decide) rfl zz_clX0 zc_X5_239 zs_X0_pair rfl rfl (Nat.le_of_ble_eq_true rfl) (Nat.le_of_ble_eq_true rfl) (by decide) (cc_pair ha hva hrq hm (by omega) hct (by omega) (by omega) (by omega)) (fun r h1 hq => ?_)
      obtain ⟨X3, rfl, ha, hf', hpq, hm, hct⟩ := hq
      have hf := hf.tr hf'
      have hrx := hrx.tr (hpq.rx (n := fs.length) (p := vs.length)) (by omega) (Nat.le_refl _) (Nat.le_refl _)
      have hrq := (hpq.rx (n := 0) (p := 0)).q (by omega) hva hrq
      have hdr := dr_x hdr (fun b i z => hpq b i (by omega))
      refine cm_callV (As := [.int (nI ((k) + (1))), .int (nI (m + 1))]) (rest := []) (d2 := 1) dX5_partsOfUnit_306 ha (by decide) rfl zz_clX0 zc_X5_236 zs_X0_unit rfl rfl (Nat.le_of_ble_eq_true rfl) (Nat.le_of_ble_eq_true rfl) (by decide) (cc_unit ha hva hrq hm (by omega) hct (by omega) (by omega) (by omega)) (fun r h1 hq => ?_)
      obtain ⟨X4, rfl, ha, hf', hpq, hm, hct⟩ := hq
      have hf := hf.tr hf'
      have hrx := hrx.tr (hpq.rx (n := fs.length) (p := vs.length)) (by omega) (Nat.le_refl _) (Nat.le_refl _)
      have hrq := (hpq.rx (n := 0) (p := 0)).q (by omega) hva hrq
      have hdr := dr_x hdr (fun b i z => hpq b i (by omega))
      exact mm_iret dX5_partsOfUnit_309 rfl (⟨_, m + 1 + 1, rfl, ha, hf, hrx, hm, by omega, hct, by rw [List.append_nil]; exact hdr⟩)
set_option maxRecDepth 100000 in
set_option maxHeartbeats 4000000 in
theorem cR_p11p {l : Launch} {D : va_G} {aa : Nat → ClassId} {b0 : Nat} {h : mm_H} {o : Nat} {X : Nat → Nat → Int32} {Y : Nat → Nat → Int64} {rl : Option Nat} {w : ro_w} {sg a dt : Nat} {E U P H PL RS CO AL LI : Nat → Nat} {m t k c : Nat} {r : List gK} {fs vs : List Nat} (ha : cm_at o X Y rl h) (hva : vA a) (hrq : rq_ X w sg a dt E U P H PL RS CO AL LI) (hm : X 4 6 = nI m) (hm8 : m + 3 ≤ 128) (hct : ct_ X w sg (gd_ sg) r t) (htm : t < m) (hdr : dr_ X fs vs c) (hpv : vs.length + 0 ≤ 24) (hk : k ≤ 6) (hpf : sp_perf sg k = true) (hg : (gd_ sg) ≤ k) (hk1 : k + 1 ≤ 6) : mm_V (zz_K l D aa b0) 2 yX5_partsOfUnit cX5_partsOfUnit 8 (some .int) 0 [(0, .ref (o + 3)), (1, .ref (o + a)), (2, .int (nI (11))), (3, .int (nI (k))), (4, .int (nI (t)))] [] h 0 0 (fun rv h' => ∃ (X' : Nat → Nat → Int32) (t' : Nat), rv = some (.int (nI t')) ∧ cm_at o X' Y rl h' ∧ cm_fr o h h' ∧ rx_ m fs.length vs.length X X' ∧ X' 4 6 = nI (m + 3) ∧ t' < m + 3 ∧ ct_ X' w sg (gd_ sg) ([(2, k + 1, 0), (1, k + 1, 0), (6, k, 0)] ++ r) t' ∧ dr_ X' fs (vs ++ []) c) := by
  have hf := cm_fr.rf (o := o) (h := h)
  have hrx := rx_.rf (m := m) (n := fs.length) (p := vs.length) (X := X)
  have hfb := (fl_b sg hrq.2.2.2.2.1 k (by omega)).1
  refine mm_aload_n dX5_partsOfUnit_0 rfl 1 rfl ?_
  refine mm_iload_n dX5_partsOfUnit_1 rfl 3 rfl ?_
  refine cm_callVr (As := [.int (nI (k))]) (rest := []) (d2 := 1) dX5_partsOfUnit_2 ha (vA_lt hva 0 (by decide)) (vA_0 hva) zz_clX9 zc_X5_221 zs_X9_fullOf rfl rfl (Nat.le_of_ble_eq_true rfl) (Nat.le_of_ble_eq_true rfl) (by decide) (cv_fullOf ha hva hrq.2.2.2.2.2.2 (by omega)) ?_
  refine mn_top (u := .int (nI (fl_ sg k))) (congrArg Value.int (by rw [if_pos (by omega)])) ?_
  refine mm_istore (L' := [(5, .int (nI (fl_ sg k))), (0, .ref (o + 3)), (1, .ref (o + a)), (2, .int (nI (11))), (3, .int (nI (k))), (4, .int (nI (t)))]) dX5_partsOfUnit_5 (by decide) rfl ?_
  refine mm_iconst (v := nI 2) dX5_partsOfUnit_7 (by decide) ?_
  refine mm_aload_n dX5_partsOfUnit_8 rfl 2 rfl ?_
  refine mm_iload_n dX5_partsOfUnit_9 rfl 4 rfl ?_
  refine mm_iconst (v := nI 1) dX5_partsOfUnit_10 (by decide) ?_
  refine mn_iadd dX5_partsOfUnit_11 ?_
  refine cm_callVr (As := [.int (nI ((k) + (1)))]) (rest := [.int (nI (2))]) (d2 := 1) dX5_partsOfUnit_12 ha (vA_lt hva 0 (by decide)) (vA_0 hva) zz_clX9 zc_X5_221 zs_X9_fullOf rfl rfl (Nat.le_of_ble_eq_true rfl) (Nat.le_of_ble_eq_true rfl) (by decide) (cv_fullOf ha hva hrq.2.2.2.2.2.2 (by omega)) ?_
  refine mn_top (u := .int (nI (fl_ sg (k + 1)))) (congrArg Value.int (by rw [if_pos (by omega)])) ?_
  refine mn_imul dX5_partsOfUnit_15 ?_
  refine mm_istore (L' := [(6, .int (nI ((2) * (fl_ sg (k + 1))))), (5, .int (nI (fl_ sg k))), (0, .ref (o + 3)), (1, .ref (o + a)), (2, .int (nI (11))), (3, .int (nI (k))), (4, .int (nI (t)))]) dX5_partsOfUnit_16 (by decide) rfl ?_
  refine mm_aload_n dX5_partsOfUnit_18 rfl 3 rfl ?_
  refine mm_iload_n dX5_partsOfUnit_19 rfl 5 rfl ?_
  refine cm_callVr (As := [.int (nI (k))]) (rest := []) (d2 := 0) dX5_partsOfUnit_20 ha (vA_lt hva 0 (by decide)) (vA_0 hva) zz_clX9 zc_X5_224 zs_X9_isPerfect rfl rfl (Nat.le_of_ble_eq_true rfl) (Nat.le_of_ble_eq_true rfl) (by decide) (cv_isPerfect ha hva hrq.2.2.2.1 hrq.2.2.2.2.1 (by omega)) ?_
  refine mn_ifB_eq (tgt := 43) dX5_partsOfUnit_23 (by decide) (fun c23 => ?_) (fun c23 => ?_)
  · rw [hpf] at c23
    cases c23
  · refine mm_iload_n dX5_partsOfUnit_26 rfl 4 rfl ?_
    refine mm_iconst (v := nI 3) dX5_partsOfUnit_27 (by decide) ?_
    refine mn_icmp_eq (tgt := 43) dX5_partsOfUnit_28 (by decide) (by omega) (by omega) (fun c28 => ?_) (fun c28 => ?_)
    · exact absurd c28 (by decide)
    · refine mm_aload_n dX5_partsOfUnit_31 rfl 2 rfl ?_
      refine cm_getR (b := 4) dX5_partsOfUnit_32 ha zr_X5_14 (by decide) rfl rfl rfl ?_
      refine mm_iload dX5_partsOfUnit_35 6 rfl ?_
      refine cm_callV (As := [.int (nI (t))]) (rest := []) (d2 := 1) dX5_partsOfUnit_37 ha (by decide) rfl zz_clX0 zc_X5_227 zs_X0_divide rfl rfl (Nat.le_of_ble_eq_true rfl) (Nat.le_of_ble_eq_true rfl) (by decide) (cc_divide ha hva hrq hm (by omega) hct (by omega) (k := k)) (fun r h1 hq => ?_)
      obtain ⟨X2, rfl, ha, hf', hpq, hm, hct⟩ := hq
      have hf := hf.tr hf'
      have hrx := hrx.tr (hpq.rx (n := fs.length) (p := vs.length)) (by omega) (Nat.le_refl _) (Nat.le_refl _)
      have hrq := (hpq.rx (n := 0) (p := 0)).q (by omega) hva hrq
      have hdr := dr_x hdr (fun b i z => hpq b i (by omega))
      refine mm_goto (tgt := 45) dX5_partsOfUnit_40 (by decide) ?_
      refine mm_istore (L' := [(7, .int (nI (m))), (6, .int (nI ((2) * (fl_ sg (k + 1))))), (5, .int (nI (fl_ sg k))), (0, .ref (o + 3)), (1, .ref (o + a)), (2, .int (nI (11))), (3, .int (nI (k))), (4, .int (nI (t)))]) dX5_partsOfUnit_45 (by decide) rfl ?_
      refine mm_iload_n dX5_partsOfUnit_47 rfl 5 rfl ?_
      refine mm_tableOut (tgt := 310) dX5_partsOfUnit_48 (Or.inr (by decide)) (by decide) ?_
      refine mm_aload_n dX5_partsOfUnit_310 rfl 3 rfl ?_
      refine cm_getR (b := 4) dX5_partsOfUnit_311 ha zr_X5_14 (by decide) rfl rfl rfl ?_
      refine mm_iload_n dX5_partsOfUnit_314 rfl 6 rfl ?_
      refine mm_iconst (v := nI 1) dX5_partsOfUnit_315 (by decide) ?_
      refine mn_iadd dX5_partsOfUnit_316 ?_
      refine mm_aload_n dX5_partsOfUnit_317 rfl 3 rfl ?_
      refine cm_getR (b := 4) dX5_partsOfUnit_318 ha zr_X5_14 (by decide) rfl rfl rfl ?_
      refine mm_iload_n dX5_partsOfUnit_321 rfl 6 rfl ?_
      refine mm_iconst (v := nI 1) dX5_partsOfUnit_322 (by decide) ?_
      refine mn_iadd dX5_partsOfUnit_323 ?_
      refine mm_iload dX5_partsOfUnit_324 0 rfl ?_
      refine cm_callV (As := [.int (nI ((k) + (1))), .int (nI (m))]) (rest := [.int (nI ((k) + (1))), .ref (o + 4)]) (d2 := 1) dX5_partsOfUnit_326 ha (by decide) rfl zz_clX0 zc_X5_236 zs_X0_unit rfl rfl (Nat.le_of_ble_eq_true rfl) (Nat.le_of_ble_eq_true rfl) (by decide) (cc_unit ha hva hrq hm (by omega) hct (by omega) (by omega) (by omega)) (fun r h1 hq => ?_)
      obtain ⟨X3, rfl, ha, hf', hpq, hm, hct⟩ := hq
      have hf := hf.tr hf'
      have hrx := hrx.tr (hpq.rx (n := fs.length) (p := vs.length)) (by omega) (Nat.le_refl _) (Nat.le_refl _)
      have hrq := (hpq.rx (n := 0) (p := 0)).q (by omega) hva hrq
      have hdr := dr_x hdr (fun b i z => hpq b i (by omega))
      refine cm_callV (As := [.int (nI ((k) + (1))), .int (nI (m + 1))]) (rest := []) (d2 := 1) dX5_partsOfUnit_329 ha (by decide) rfl zz_clX0 zc_X5_239 zs_X0_pair rfl rfl (Nat.le_of_ble_eq_true rfl) (Nat.le_of_ble_eq_true rfl) (by decide) (cc_pair ha hva hrq hm (by omega) hct (by omega) (by omega) (by omega)) (fun r h1 hq => ?_)
      obtain ⟨X4, rfl, ha, hf', hpq, hm, hct⟩ := hq
      have hf := hf.tr hf'
      have hrx := hrx.tr (hpq.rx (n := fs.length) (p := vs.length)) (by omega) (Nat.le_refl _) (Nat.le_refl _)
      have hrq := (hpq.rx (n := 0) (p := 0)).q (by omega) hva hrq
      have hdr := dr_x hdr (fun b i z => hpq b i (by omega))
      exact mm_iret dX5_partsOfUnit_332 rfl (⟨_, m + 1 + 1, rfl, ha, hf, hrx, hm, by omega, hct, by rw [List.append_nil]; exact hdr⟩)
set_option maxRecDepth 100000 in
set_option maxHeartbeats 4000000 in
theorem cR_p13 {l : Launch} {D : va_G} {aa : Nat → ClassId} {b0 : Nat} {h : mm_H} {o : Nat} {X : Nat → Nat → Int32} {Y : Nat → Nat → Int64} {rl : Option Nat} {w : ro_w} {sg a dt : Nat} {E U P H PL RS CO AL LI : Nat → Nat} {m t k c : Nat} {r : List gK} {fs vs : List Nat} (ha : cm_at o X Y rl h) (hva : vA a) (hrq : rq_ X w sg a dt E U P H PL RS CO AL LI) (hm : X 4 6 = nI m) (hm8 : m + 1 ≤ 128) (hct : ct_ X w sg (gd_ sg) r t) (htm : t < m) (hdr : dr_ X fs vs c) (hpv : vs.length + 2 ≤ 24) (hk : k ≤ 6) (hg : (gd_ sg) ≤ k) (hk1 : k + 1 ≤ 6) : mm_V (zz_K l D aa b0) 2 yX5_partsOfOthers cX5_partsOfOthers 7 (some .int) 0 [(0, .ref (o + 3)), (1, .ref (o + a)), (2, .int (nI (13))), (3, .int (nI (k))), (4, .int (nI (t)))] [] h 0 0 (fun rv h' => ∃ (X' : Nat → Nat → Int32) (t' : Nat), rv = some (.int (nI t')) ∧ cm_at o X' Y rl h' ∧ cm_fr o h h' ∧ rx_ m fs.length vs.length X X' ∧ X' 4 6 = nI (m + 1) ∧ t' < m + 1 ∧ ct_ X' w sg (gd_ sg) ([(1, k + 1, 0)] ++ r) t' ∧ dr_ X' fs (vs ++ [3 * fl_ sg (k + 1), 0]) c) := by
  have hf := cm_fr.rf (o := o) (h := h)
  have hrx := rx_.rf (m := m) (n := fs.length) (p := vs.length) (X := X)
  have hfb := (fl_b sg hrq.2.2.2.2.1 k (by omega)).1
  refine mm_aload_n dX5_partsOfOthers_0 rfl 1 rfl ?_
  refine mm_iload_n dX5_partsOfOthers_1 rfl 3 rfl ?_
  refine cm_callVr (As := [.int (nI (k))]) (rest := []) (d2 := 1) dX5_partsOfOthers_2 ha (vA_lt hva 0 (by decide)) (vA_0 hva) zz_clX9 zc_X5_221 zs_X9_fullOf rfl rfl (Nat.le_of_ble_eq_true rfl) (Nat.le_of_ble_eq_true rfl) (by decide) (cv_fullOf ha hva hrq.2.2.2.2.2.2 (by omega)) ?_
  refine mn_top (u := .int (nI (fl_ sg k))) (congrArg Value.int (by rw [if_pos (by omega)])) ?_
  refine mm_istore (L' := [(5, .int (nI (fl_ sg k))), (0, .ref (o + 3)), (1, .ref (o + a)), (2, .int (nI (13))), (3, .int (nI (k))), (4, .int (nI (t)))]) dX5_partsOfOthers_5 (by decide) rfl ?_
  refine mm_iconst (v := nI 3) dX5_partsOfOthers_7 (by decide) ?_
  refine mm_aload_n dX5_partsOfOthers_8 rfl 2 rfl ?_
  refine mm_iload_n dX5_partsOfOthers_9 rfl 4 rfl ?_
  refine mm_iconst (v := nI 1) dX5_partsOfOthers_10 (by decide) ?_
  refine mn_iadd dX5_partsOfOthers_11 ?_
  refine cm_callVr (As := [.int (nI ((k) + (1)))]) (rest := [.int (nI (3))]) (d2 := 1) dX5_partsOfOthers_12 ha (vA_lt hva 0 (by decide)) (vA_0 hva) zz_clX9 zc_X5_221 zs_X9_fullOf rfl rfl (Nat.le_of_ble_eq_true rfl) (Nat.le_of_ble_eq_true rfl) (by decide) (cv_fullOf ha hva hrq.2.2.2.2.2.2 (by omega)) ?_
  refine mn_top (u := .int (nI (fl_ sg (k + 1)))) (congrArg Value.int (by rw [if_pos (by omega)])) ?_
  refine mn_imul dX5_partsOfOthers_15 ?_
  refine mm_istore (L' := [(6, .int (nI ((3) * (fl_ sg (k + 1))))), (5, .int (nI (fl_ sg k))), (0, .ref (o + 3)), (1, .ref (o + a)), (2, .int (nI (13))), (3, .int (nI (k))), (4, .int (nI (t)))]) dX5_partsOfOthers_16 (by decide) rfl ?_
  refine mm_iload_n dX5_partsOfOthers_18 rfl 4 rfl ?_
  refine mm_tableIn (off := 33) (tgt := 52) dX5_partsOfOthers_19 (by decide) (by decide) rfl (by decide) ?_
  refine mm_aload_n dX5_partsOfOthers_52 rfl 2 rfl ?_
  refine cm_getR (b := 25) dX5_partsOfOthers_53 ha zr_X5_28 (by decide) rfl rfl rfl ?_
  refine mm_iload dX5_partsOfOthers_56 0 rfl ?_
  refine cm_callV (As := [.int (nI ((3) * (fl_ sg (k + 1))))]) (rest := []) (d2 := 1) dX5_partsOfOthers_58 ha (by decide) rfl zz_clX1 zc_X5_233 zs_X1_takeDotted rfl rfl (Nat.le_of_ble_eq_true rfl) (Nat.le_of_ble_eq_true rfl) (by decide) (cd_takeDotted ha hdr.1.2.2.1 (by omega)) (fun r h1 hq => ?_)
  obtain ⟨rfl, ha, hf'⟩ := hq
  have hf := hf.tr hf'
  obtain ⟨X2, ha, hrx', hdr, hlo⟩ := td_pack ha hdr
  have hrx := hrx.tr (hrx' m) (by omega) (Nat.le_refl _) (by first | exact Nat.le_refl _ | (rw [List.length_append]; omega))
  have hrq := (hrx' m).q (by omega) hva hrq
  have hct := ct_x hct (fun b i h1 h2 h3 => hlo b i (by omega))
  have hm := (hlo 4 6 (by decide)).trans hm
  refine mm_aload_n dX5_partsOfOthers_61 rfl 2 rfl ?_
  refine cm_getR (b := 4) dX5_partsOfOthers_62 ha zr_X5_14 (by decide) rfl rfl rfl ?_
  refine mm_iload_n dX5_partsOfOthers_65 rfl 5 rfl ?_
  refine mm_iconst (v := nI 1) dX5_partsOfOthers_66 (by decide) ?_
  refine mn_iadd dX5_partsOfOthers_67 ?_
  refine mm_iload dX5_partsOfOthers_68 6 rfl ?_
  refine cm_callV (As := [.int (nI ((k) + (1))), .int (nI (t))]) (rest := []) (d2 := 1) dX5_partsOfOthers_70 ha (by decide) rfl zz_clX0 zc_X5_236 zs_X0_unit rfl rfl (Nat.le_of_ble_eq_true rfl) (Nat.le_of_ble_eq_true rfl) (by decide) (cc_unit ha hva hrq hm (by omega) hct (by omega) (by omega) (by omega)) (fun r h1 hq => ?_)
  obtain ⟨X3, rfl, ha, hf', hpq, hm, hct⟩ := hq
  have hf := hf.tr hf'
  have hrx := hrx.tr (hpq.rx (n := fs.length) (p := vs.length)) (by omega) (Nat.le_refl _) (Nat.le_refl _)
  have hrq := (hpq.rx (n := 0) (p := 0)).q (by omega) hva hrq
  have hdr := dr_x hdr (fun b i z => hpq b i (by omega))
  exact mm_iret dX5_partsOfOthers_73 rfl (⟨_, m, rfl, ha, hf, hrx, hm, by omega, hct, hdr⟩)
set_option maxRecDepth 100000 in
set_option maxHeartbeats 4000000 in
theorem cR_p14 {l : Launch} {D : va_G} {aa : Nat → ClassId} {b0 : Nat} {h : mm_H} {o : Nat} {X : Nat → Nat → Int32} {Y : Nat → Nat → Int64} {rl : Option Nat} {w : ro_w} {sg a dt : Nat} {E U P H PL RS CO AL LI : Nat → Nat} {m t k c : Nat} {r : List gK} {fs vs : List Nat} (ha : cm_at o X Y rl h) (hva : vA a) (hrq : rq_ X w sg a dt E U P H PL RS CO AL LI) (hm : X 4 6 = nI m) (hm8 : m + 2 ≤ 128) (hct : ct_ X w sg (gd_ sg) r t) (htm : t < m) (hdr : dr_ X fs vs c) (hpv : vs.length + 0 ≤ 24) (hk : k ≤ 6) (hg : (gd_ sg) ≤ k) (hk1 : k + 1 ≤ 6) : mm_V (zz_K l D aa b0) 2 yX5_partsOfOthers cX5_partsOfOthers 7 (some .int) 0 [(0, .ref (o + 3)), (1, .ref (o + a)), (2, .int (nI (14))), (3, .int (nI (k))), (4, .int (nI (t)))] [] h 0 0 (fun rv h' => ∃ (X' : Nat → Nat → Int32) (t' : Nat), rv = some (.int (nI t')) ∧ cm_at o X' Y rl h' ∧ cm_fr o h h' ∧ rx_ m fs.length vs.length X X' ∧ X' 4 6 = nI (m + 2) ∧ t' < m + 2 ∧ ct_ X' w sg (gd_ sg) ([(1, k + 1, 0), (5, k, 3 * fl_ sg (k + 1))] ++ r) t' ∧ dr_ X' fs (vs ++ []) c) := by
  have hf := cm_fr.rf (o := o) (h := h)
  have hrx := rx_.rf (m := m) (n := fs.length) (p := vs.length) (X := X)
  have hfb := (fl_b sg hrq.2.2.2.2.1 k (by omega)).1
  refine mm_aload_n dX5_partsOfOthers_0 rfl 1 rfl ?_
  refine mm_iload_n dX5_partsOfOthers_1 rfl 3 rfl ?_
  refine cm_callVr (As := [.int (nI (k))]) (rest := []) (d2 := 1) dX5_partsOfOthers_2 ha (vA_lt hva 0 (by decide)) (vA_0 hva) zz_clX9 zc_X5_221 zs_X9_fullOf rfl rfl (Nat.le_of_ble_eq_true rfl) (Nat.le_of_ble_eq_true rfl) (by decide) (cv_fullOf ha hva hrq.2.2.2.2.2.2 (by omega)) ?_
  refine mn_top (u := .int (nI (fl_ sg k))) (congrArg Value.int (by rw [if_pos (by omega)])) ?_
  refine mm_istore (L' := [(5, .int (nI (fl_ sg k))), (0, .ref (o + 3)), (1, .ref (o + a)), (2, .int (nI (14))), (3, .int (nI (k))), (4, .int (nI (t)))]) dX5_partsOfOthers_5 (by decide) rfl ?_
  refine mm_iconst (v := nI 3) dX5_partsOfOthers_7 (by decide) ?_
  refine mm_aload_n dX5_partsOfOthers_8 rfl 2 rfl ?_
  refine mm_iload_n dX5_partsOfOthers_9 rfl 4 rfl ?_
  refine mm_iconst (v := nI 1) dX5_partsOfOthers_10 (by decide) ?_
  refine mn_iadd dX5_partsOfOthers_11 ?_
  refine cm_callVr (As := [.int (nI ((k) + (1)))]) (rest := [.int (nI (3))]) (d2 := 1) dX5_partsOfOthers_12 ha (vA_lt hva 0 (by decide)) (vA_0 hva) zz_clX9 zc_X5_221 zs_X9_fullOf rfl rfl (Nat.le_of_ble_eq_true rfl) (Nat.le_of_ble_eq_true rfl) (by decide) (cv_fullOf ha hva hrq.2.2.2.2.2.2 (by omega)) ?_
  refine mn_top (u := .int (nI (fl_ sg (k + 1)))) (congrArg Value.int (by rw [if_pos (by omega)])) ?_
  refine mn_imul dX5_partsOfOthers_15 ?_
  refine mm_istore (L' := [(6, .int (nI ((3) * (fl_ sg (k + 1))))), (5, .int (nI (fl_ sg k))), (0, .ref (o + 3)), (1, .ref (o + a)), (2, .int (nI (14))), (3, .int (nI (k))), (4, .int (nI (t)))]) dX5_partsOfOthers_16 (by decide) rfl ?_
  refine mm_iload_n dX5_partsOfOthers_18 rfl 4 rfl ?_
  refine mm_tableIn (off := 55) (tgt := 74) dX5_partsOfOthers_19 (by decide) (by decide) rfl (by decide) ?_
  refine mm_aload_n dX5_partsOfOthers_74 rfl 2 rfl ?_
  refine cm_getR (b := 4) dX5_partsOfOthers_75 ha zr_X5_14 (by decide) rfl rfl rfl ?_
  refine mm_iload_n dX5_partsOfOthers_78 rfl 5 rfl ?_
  refine mm_iconst (v := nI 1) dX5_partsOfOthers_79 (by decide) ?_
  refine mn_iadd dX5_partsOfOthers_80 ?_
  refine mm_aload_n dX5_partsOfOthers_81 rfl 2 rfl ?_
  refine cm_getR (b := 4) dX5_partsOfOthers_82 ha zr_X5_14 (by decide) rfl rfl rfl ?_
  refine mm_aload_n dX5_partsOfOthers_85 rfl 2 rfl ?_
  refine cm_getR (b := 4) dX5_partsOfOthers_86 ha zr_X5_14 (by decide) rfl rfl rfl ?_
  refine cm_getR (b := 10) dX5_partsOfOthers_89 ha zr_X5_54 (by decide) rfl rfl rfl ?_
  refine mm_iload_n dX5_partsOfOthers_92 rfl 5 rfl ?_
  refine cm_callVr (As := [.int (nI (k))]) (rest := [.ref (o + 4), .int (nI ((k) + (1))), .ref (o + 4)]) (d2 := 1) dX5_partsOfOthers_93 ha (by decide) rfl zz_clX7 zc_X5_250 zs_X7_dottedOf rfl rfl (Nat.le_of_ble_eq_true rfl) (Nat.le_of_ble_eq_true rfl) (by decide) (cs_dottedOf ha hrq.1.1.2.2.1.1 hrq.1.1.1.2.1 (by have := hrq.1.1.1.2.2; omega) (by omega)) ?_
  refine mn_top (u := .int (nI (PL k &&& dt >>> 1))) (congrArg Value.int (by rw [if_pos (by omega)])) ?_
  refine mm_iload dX5_partsOfOthers_96 0 rfl ?_
  refine mm_iload dX5_partsOfOthers_98 6 rfl ?_
  refine cm_callV (As := [.int (nI (PL k &&& dt >>> 1)), .int (nI ((3) * (fl_ sg (k + 1)))), .int (nI (t))]) (rest := [.int (nI ((k) + (1))), .ref (o + 4)]) (d2 := 1) dX5_partsOfOthers_100 ha (by decide) rfl zz_clX0 zc_X5_253 zs_X0_takeDotted rfl rfl (Nat.le_of_ble_eq_true rfl) (Nat.le_of_ble_eq_true rfl) (by decide) (cc_takeDotted ha hva hrq hm (by omega) hct (by omega) (k := k) (by omega)) (fun r h1 hq => ?_)
  obtain ⟨X2, rfl, ha, hf', hpq, hm, hct⟩ := hq
  have hf := hf.tr hf'
  have hrx := hrx.tr (hpq.rx (n := fs.length) (p := vs.length)) (by omega) (Nat.le_refl _) (Nat.le_refl _)
  have hrq := (hpq.rx (n := 0) (p := 0)).q (by omega) hva hrq
  have hdr := dr_x hdr (fun b i z => hpq b i (by omega))
  refine cm_callV (As := [.int (nI ((k) + (1))), .int (nI (m))]) (rest := []) (d2 := 1) dX5_partsOfOthers_103 ha (by decide) rfl zz_clX0 zc_X5_236 zs_X0_unit rfl rfl (Nat.le_of_ble_eq_true rfl) (Nat.le_of_ble_eq_true rfl) (by decide) (cc_unit ha hva hrq hm (by omega) hct (by omega) (by omega) (by omega)) (fun r h1 hq => ?_)
  obtain ⟨X3, rfl, ha, hf', hpq, hm, hct⟩ := hq
  have hf := hf.tr hf'
  have hrx := hrx.tr (hpq.rx (n := fs.length) (p := vs.length)) (by omega) (Nat.le_refl _) (Nat.le_refl _)
  have hrq := (hpq.rx (n := 0) (p := 0)).q (by omega) hva hrq
  have hdr := dr_x hdr (fun b i z => hpq b i (by omega))
  exact mm_iret dX5_partsOfOthers_106 rfl (⟨_, m + 1, rfl, ha, hf, hrx, hm, by omega, hct, by rw [List.append_nil]; exact hdr⟩)
set_option maxRecDepth 100000 in
set_option maxHeartbeats 4000000 in
theorem cR_p15 {l : Launch} {D : va_G} {aa : Nat → ClassId} {b0 : Nat} {h : mm_H} {o : Nat} {X : Nat → Nat → Int32} {Y : Nat → Nat → Int64} {rl : Option Nat} {w : ro_w} {sg a dt : Nat} {E U P H PL RS CO AL LI : Nat → Nat} {m t k c : Nat} {r : List gK} {fs vs : List Nat} (ha : cm_at o X Y rl h) (hva : vA a) (hrq : rq_ X w sg a dt E U P H PL RS CO AL LI) (hm : X 4 6 = nI m) (hm8 : m + 3 ≤ 128) (hct : ct_ X w sg (gd_ sg) r t) (htm : t < m) (hdr : dr_ X fs vs c) (hpv : vs.length + 0 ≤ 24) (hk : k ≤ 6) : mm_V (zz_K l D aa b0) 2 yX5_partsOfOthers cX5_partsOfOthers 7 (some .int) 0 [(0, .ref (o + 3)), (1, .ref (o + a)), (2, .int (nI (15))), (3, .int (nI (k))), (4, .int (nI (t)))] [] h 0 0 (fun rv h' => ∃ (X' : Nat → Nat → Int32) (t' : Nat), rv = some (.int (nI t')) ∧ cm_at o X' Y rl h' ∧ cm_fr o h h' ∧ rx_ m fs.length vs.length X X' ∧ X' 4 6 = nI (m + 3) ∧ t' < m + 3 ∧ ct_ X' w sg (gd_ sg) ([(3, k, 0), (3, k, 0), (3, k, 0)] ++ r) t' ∧ dr_ X' fs (vs ++ []) c) := by
  have hf := cm_fr.rf (o := o) (h := h)
  have hrx := rx_.rf (m := m) (n := fs.length) (p := vs.length) (X := X)
  have hfb := (fl_b sg hrq.2.2.2.2.1 k (by omega)).1
  have hg0 : True := trivial
  refine mm_aload_n dX5_partsOfOthers_0 rfl 1 rfl ?_
  refine mm_iload_n dX5_partsOfOthers_1 rfl 3 rfl ?_
  refine cm_callVr (As := [.int (nI (k))]) (rest := []) (d2 := 1) dX5_partsOfOthers_2 ha (vA_lt hva 0 (by decide)) (vA_0 hva) zz_clX9 zc_X5_221 zs_X9_fullOf rfl rfl (Nat.le_of_ble_eq_true rfl) (Nat.le_of_ble_eq_true rfl) (by decide) (cv_fullOf ha hva hrq.2.2.2.2.2.2 (by omega)) ?_
  refine mn_top (u := .int (nI (fl_ sg k))) (congrArg Value.int (by rw [if_pos (by omega)])) ?_
  refine mm_istore (L' := [(5, .int (nI (fl_ sg k))), (0, .ref (o + 3)), (1, .ref (o + a)), (2, .int (nI (15))), (3, .int (nI (k))), (4, .int (nI (t)))]) dX5_partsOfOthers_5 (by decide) rfl ?_
  refine mm_iconst (v := nI 3) dX5_partsOfOthers_7 (by decide) ?_
  refine mm_aload_n dX5_partsOfOthers_8 rfl 2 rfl ?_
  refine mm_iload_n dX5_partsOfOthers_9 rfl 4 rfl ?_
  refine mm_iconst (v := nI 1) dX5_partsOfOthers_10 (by decide) ?_
  refine mn_iadd dX5_partsOfOthers_11 ?_
  refine cm_callVr (As := [.int (nI ((k) + (1)))]) (rest := [.int (nI (3))]) (d2 := 1) dX5_partsOfOthers_12 ha (vA_lt hva 0 (by decide)) (vA_0 hva) zz_clX9 zc_X5_221 zs_X9_fullOf rfl rfl (Nat.le_of_ble_eq_true rfl) (Nat.le_of_ble_eq_true rfl) (by decide) (cv_fullOf ha hva hrq.2.2.2.2.2.2 (by omega)) ?_
  refine mn_imul dX5_partsOfOthers_15 ?_
  refine mm_istore (L' := [(6, .int (nI ((3) * (if (k) + (1) < 7 then fl_ sg ((k) + (1)) else 0)))), (5, .int (nI (fl_ sg k))), (0, .ref (o + 3)), (1, .ref (o + a)), (2, .int (nI (15))), (3, .int (nI (k))), (4, .int (nI (t)))]) dX5_partsOfOthers_16 (by decide) rfl ?_
  refine mm_iload_n dX5_partsOfOthers_18 rfl 4 rfl ?_
  refine mm_tableIn (off := 88) (tgt := 107) dX5_partsOfOthers_19 (by decide) (by decide) rfl (by decide) ?_
  refine mm_aload_n dX5_partsOfOthers_107 rfl 2 rfl ?_
  refine cm_getR (b := 4) dX5_partsOfOthers_108 ha zr_X5_14 (by decide) rfl rfl rfl ?_
  refine mm_iload_n dX5_partsOfOthers_111 rfl 5 rfl ?_
  refine mm_aload_n dX5_partsOfOthers_112 rfl 2 rfl ?_
  refine cm_getR (b := 4) dX5_partsOfOthers_113 ha zr_X5_14 (by decide) rfl rfl rfl ?_
  refine mm_iload_n dX5_partsOfOthers_116 rfl 5 rfl ?_
  refine mm_aload_n dX5_partsOfOthers_117 rfl 2 rfl ?_
  refine cm_getR (b := 4) dX5_partsOfOthers_118 ha zr_X5_14 (by decide) rfl rfl rfl ?_
  refine mm_iload_n dX5_partsOfOthers_121 rfl 5 rfl ?_
  refine mm_iload dX5_partsOfOthers_122 6 rfl ?_
  refine cm_callV (As := [.int (nI (k)), .int (nI (t))]) (rest := [.int (nI (k)), .ref (o + 4), .int (nI (k)), .ref (o + 4)]) (d2 := 1) dX5_partsOfOthers_124 ha (by decide) rfl zz_clX0 zc_X5_255 zs_X0_third rfl rfl (Nat.le_of_ble_eq_true rfl) (Nat.le_of_ble_eq_true rfl) (by decide) (cc_third ha hva hrq hm (by omega) hct (by omega) (by omega)) (fun r h1 hq => ?_)
  obtain ⟨X2, rfl, ha, hf', hpq, hm, hct⟩ := hq
  have hf := hf.tr hf'
  have hrx := hrx.tr (hpq.rx (n := fs.length) (p := vs.length)) (by omega) (Nat.le_refl _) (Nat.le_refl _)
  have hrq := (hpq.rx (n := 0) (p := 0)).q (by omega) hva hrq
  have hdr := dr_x hdr (fun b i z => hpq b i (by omega))
  refine cm_callV (As := [.int (nI (k)), .int (nI (m))]) (rest := [.int (nI (k)), .ref (o + 4)]) (d2 := 1) dX5_partsOfOthers_127 ha (by decide) rfl zz_clX0 zc_X5_255 zs_X0_third rfl rfl (Nat.le_of_ble_eq_true rfl) (Nat.le_of_ble_eq_true rfl) (by decide) (cc_third ha hva hrq hm (by omega) hct (by omega) (by omega)) (fun r h1 hq => ?_)
  obtain ⟨X3, rfl, ha, hf', hpq, hm, hct⟩ := hq
  have hf := hf.tr hf'
  have hrx := hrx.tr (hpq.rx (n := fs.length) (p := vs.length)) (by omega) (Nat.le_refl _) (Nat.le_refl _)
  have hrq := (hpq.rx (n := 0) (p := 0)).q (by omega) hva hrq
  have hdr := dr_x hdr (fun b i z => hpq b i (by omega))
  refine cm_callV (As := [.int (nI (k)), .int (nI (m + 1))]) (rest := []) (d2 := 1) dX5_partsOfOthers_130 ha (by decide) rfl zz_clX0 zc_X5_255 zs_X0_third rfl rfl (Nat.le_of_ble_eq_true rfl) (Nat.le_of_ble_eq_true rfl) (by decide) (cc_third ha hva hrq hm (by omega) hct (by omega) (by omega)) (fun r h1 hq => ?_)
  obtain ⟨X4, rfl, ha, hf', hpq, hm, hct⟩ := hq
  have hf := hf.tr hf'
  have hrx := hrx.tr (hpq.rx (n := fs.length) (p := vs.length)) (by omega) (Nat.le_refl _) (Nat.le_refl _)
  have hrq := (hpq.rx (n := 0) (p := 0)).q (by omega) hva hrq
  have hdr := dr_x hdr (fun b i z => hpq b i (by omega))
  exact mm_iret dX5_partsOfOthers_133 rfl (⟨_, m + 1 + 1, rfl, ha, hf, hrx, hm, by omega, hct, by rw [List.append_nil]; exact hdr⟩)
set_option maxRecDepth 100000 in
set_option maxHeartbeats 4000000 in
theorem cR_p16 {l : Launch} {D : va_G} {aa : Nat → ClassId} {b0 : Nat} {h : mm_H} {o : Nat} {X : Nat → Nat → Int32} {Y : Nat → Nat → Int64} {rl : Option Nat} {w : ro_w} {sg a dt : Nat} {E U P H PL RS CO AL LI : Nat → Nat} {m t k c : Nat} {r : List gK} {fs vs : List Nat} (ha : cm_at o X Y rl h) (hva : vA a) (hrq : rq_ X w sg a dt E U P H PL RS CO AL LI) (hm : X 4 6 = nI m) (hm8 : m + 0 ≤ 128) (hct : ct_ X w sg (gd_ sg) r t) (htm : t < m) (hdr : dr_ X fs vs c) (hpv : vs.length + 1 ≤ 24) (hk : k ≤ 6) : mm_V (zz_K l D aa b0) 2 yX5_partsOfOthers cX5_partsOfOthers 7 (some .int) 0 [(0, .ref (o + 3)), (1, .ref (o + a)), (2, .int (nI (16))), (3, .int (nI (k))), (4, .int (nI (t)))] [] h 0 0 (fun rv h' => ∃ (X' : Nat → Nat → Int32) (t' : Nat), rv = some (.int (nI t')) ∧ cm_at o X' Y rl h' ∧ cm_fr o h h' ∧ rx_ m fs.length vs.length X X' ∧ X' 4 6 = nI (m + 0) ∧ t' < m + 0 ∧ ct_ X' w sg (gd_ sg) ([] ++ r) t' ∧ dr_ X' fs (vs ++ [2 * fl_ sg k / 3]) c) := by
  have hf := cm_fr.rf (o := o) (h := h)
  have hrx := rx_.rf (m := m) (n := fs.length) (p := vs.length) (X := X)
  have hfb := (fl_b sg hrq.2.2.2.2.1 k (by omega)).1
  refine mm_aload_n dX5_partsOfOthers_0 rfl 1 rfl ?_
  refine mm_iload_n dX5_partsOfOthers_1 rfl 3 rfl ?_
  refine cm_callVr (As := [.int (nI (k))]) (rest := []) (d2 := 1) dX5_partsOfOthers_2 ha (vA_lt hva 0 (by decide)) (vA_0 hva) zz_clX9 zc_X5_221 zs_X9_fullOf rfl rfl (Nat.le_of_ble_eq_true rfl) (Nat.le_of_ble_eq_true rfl) (by decide) (cv_fullOf ha hva hrq.2.2.2.2.2.2 (by omega)) ?_
  refine mn_top (u := .int (nI (fl_ sg k))) (congrArg Value.int (by rw [if_pos (by omega)])) ?_
  refine mm_istore (L' := [(5, .int (nI (fl_ sg k))), (0, .ref (o + 3)), (1, .ref (o + a)), (2, .int (nI (16))), (3, .int (nI (k))), (4, .int (nI (t)))]) dX5_partsOfOthers_5 (by decide) rfl ?_
  refine mm_iconst (v := nI 3) dX5_partsOfOthers_7 (by decide) ?_
  refine mm_aload_n dX5_partsOfOthers_8 rfl 2 rfl ?_
  refine mm_iload_n dX5_partsOfOthers_9 rfl 4 rfl ?_
  refine mm_iconst (v := nI 1) dX5_partsOfOthers_10 (by decide) ?_
  refine mn_iadd dX5_partsOfOthers_11 ?_
  refine cm_callVr (As := [.int (nI ((k) + (1)))]) (rest := [.int (nI (3))]) (d2 := 1) dX5_partsOfOthers_12 ha (vA_lt hva 0 (by decide)) (vA_0 hva) zz_clX9 zc_X5_221 zs_X9_fullOf rfl rfl (Nat.le_of_ble_eq_true rfl) (Nat.le_of_ble_eq_true rfl) (by decide) (cv_fullOf ha hva hrq.2.2.2.2.2.2 (by omega)) ?_
  refine mn_imul dX5_partsOfOthers_15 ?_
  refine mm_istore (L' := [(6, .int (nI ((3) * (if (k) + (1) < 7 then fl_ sg ((k) + (1)) else 0)))), (5, .int (nI (fl_ sg k))), (0, .ref (o + 3)), (1, .ref (o + a)), (2, .int (nI (16))), (3, .int (nI (k))), (4, .int (nI (t)))]) dX5_partsOfOthers_16 (by decide) rfl ?_
  refine mm_iload_n dX5_partsOfOthers_18 rfl 4 rfl ?_
  refine mm_tableIn (off := 115) (tgt := 134) dX5_partsOfOthers_19 (by decide) (by decide) rfl (by decide) ?_
  refine mm_aload_n dX5_partsOfOthers_134 rfl 2 rfl ?_
  refine cm_getR (b := 25) dX5_partsOfOthers_135 ha zr_X5_28 (by decide) rfl rfl rfl ?_
  refine mm_iload dX5_partsOfOthers_138 1 rfl ?_
  refine mm_iconst (v := nI 3) dX5_partsOfOthers_140 (by decide) ?_
  refine mn_idiv dX5_partsOfOthers_141 (by omega) (by omega) (by omega) ?_
  refine mm_iconst (v := nI 2) dX5_partsOfOthers_142 (by decide) ?_
  refine mn_imul dX5_partsOfOthers_143 ?_
  refine mn_top (u := .int (nI (2 * fl_ sg k / 3))) (congrArg Value.int (by rw [fl_3 sg hrq.2.2.2.2.1 k (by omega)])) ?_
  refine cm_callV (As := [.int (nI (2 * fl_ sg k / 3))]) (rest := []) (d2 := 0) dX5_partsOfOthers_144 ha (by decide) rfl zz_clX1 zc_X5_230 zs_X1_take rfl rfl (Nat.le_of_ble_eq_true rfl) (Nat.le_of_ble_eq_true rfl) (by decide) (cd_take ha hdr.1.2.2.1 (by omega)) (fun r h1 hq => ?_)
  obtain ⟨rfl, ha, hf'⟩ := hq
  have hf := hf.tr hf'
  obtain ⟨X2, ha, hrx', hdr, hlo⟩ := tk_pack ha hdr
  have hrx := hrx.tr (hrx' m) (by omega) (Nat.le_refl _) (by first | exact Nat.le_refl _ | (rw [List.length_append]; omega))
  have hrq := (hrx' m).q (by omega) hva hrq
  have hct := ct_x hct (fun b i h1 h2 h3 => hlo b i (by omega))
  have hm := (hlo 4 6 (by decide)).trans hm
  refine mm_iload dX5_partsOfOthers_147 6 rfl ?_
  exact mm_iret dX5_partsOfOthers_149 rfl (⟨_, t, rfl, ha, hf, hrx, hm, by omega, hct, hdr⟩)
set_option maxRecDepth 100000 in
set_option maxHeartbeats 4000000 in
theorem cR_p17 {l : Launch} {D : va_G} {aa : Nat → ClassId} {b0 : Nat} {h : mm_H} {o : Nat} {X : Nat → Nat → Int32} {Y : Nat → Nat → Int64} {rl : Option Nat} {w : ro_w} {sg a dt : Nat} {E U P H PL RS CO AL LI : Nat → Nat} {m t k c : Nat} {r : List gK} {fs vs : List Nat} (ha : cm_at o X Y rl h) (hva : vA a) (hrq : rq_ X w sg a dt E U P H PL RS CO AL LI) (hm : X 4 6 = nI m) (hm8 : m + 0 ≤ 128) (hct : ct_ X w sg (gd_ sg) r t) (htm : t < m) (hdr : dr_ X fs vs c) (hpv : vs.length + 2 ≤ 24) (hk : k ≤ 6) : mm_V (zz_K l D aa b0) 2 yX5_partsOfOthers cX5_partsOfOthers 7 (some .int) 0 [(0, .ref (o + 3)), (1, .ref (o + a)), (2, .int (nI (17))), (3, .int (nI (k))), (4, .int (nI (t)))] [] h 0 0 (fun rv h' => ∃ (X' : Nat → Nat → Int32) (t' : Nat), rv = some (.int (nI t')) ∧ cm_at o X' Y rl h' ∧ cm_fr o h h' ∧ rx_ m fs.length vs.length X X' ∧ X' 4 6 = nI (m + 0) ∧ t' < m + 0 ∧ ct_ X' w sg (gd_ sg) ([] ++ r) t' ∧ dr_ X' fs (vs ++ [fl_ sg k / 3, fl_ sg k / 3]) c) := by
  have hf := cm_fr.rf (o := o) (h := h)
  have hrx := rx_.rf (m := m) (n := fs.length) (p := vs.length) (X := X)
  have hfb := (fl_b sg hrq.2.2.2.2.1 k (by omega)).1
  refine mm_aload_n dX5_partsOfOthers_0 rfl 1 rfl ?_
  refine mm_iload_n dX5_partsOfOthers_1 rfl 3 rfl ?_
  refine cm_callVr (As := [.int (nI (k))]) (rest := []) (d2 := 1) dX5_partsOfOthers_2 ha (vA_lt hva 0 (by decide)) (vA_0 hva) zz_clX9 zc_X5_221 zs_X9_fullOf rfl rfl (Nat.le_of_ble_eq_true rfl) (Nat.le_of_ble_eq_true rfl) (by decide) (cv_fullOf ha hva hrq.2.2.2.2.2.2 (by omega)) ?_
  refine mn_top (u := .int (nI (fl_ sg k))) (congrArg Value.int (by rw [if_pos (by omega)])) ?_
  refine mm_istore (L' := [(5, .int (nI (fl_ sg k))), (0, .ref (o + 3)), (1, .ref (o + a)), (2, .int (nI (17))), (3, .int (nI (k))), (4, .int (nI (t)))]) dX5_partsOfOthers_5 (by decide) rfl ?_
  refine mm_iconst (v := nI 3) dX5_partsOfOthers_7 (by decide) ?_
  refine mm_aload_n dX5_partsOfOthers_8 rfl 2 rfl ?_
  refine mm_iload_n dX5_partsOfOthers_9 rfl 4 rfl ?_
  refine mm_iconst (v := nI 1) dX5_partsOfOthers_10 (by decide) ?_
  refine mn_iadd dX5_partsOfOthers_11 ?_
  refine cm_callVr (As := [.int (nI ((k) + (1)))]) (rest := [.int (nI (3))]) (d2 := 1) dX5_partsOfOthers_12 ha (vA_lt hva 0 (by decide)) (vA_0 hva) zz_clX9 zc_X5_221 zs_X9_fullOf rfl rfl (Nat.le_of_ble_eq_true rfl) (Nat.le_of_ble_eq_true rfl) (by decide) (cv_fullOf ha hva hrq.2.2.2.2.2.2 (by omega)) ?_
  refine mn_imul dX5_partsOfOthers_15 ?_
  refine mm_istore (L' := [(6, .int (nI ((3) * (if (k) + (1) < 7 then fl_ sg ((k) + (1)) else 0)))), (5, .int (nI (fl_ sg k))), (0, .ref (o + 3)), (1, .ref (o + a)), (2, .int (nI (17))), (3, .int (nI (k))), (4, .int (nI (t)))]) dX5_partsOfOthers_16 (by decide) rfl ?_
  refine mm_iload_n dX5_partsOfOthers_18 rfl 4 rfl ?_
  refine mm_tableIn (off := 131) (tgt := 150) dX5_partsOfOthers_19 (by decide) (by decide) rfl (by decide) ?_
  refine mm_aload_n dX5_partsOfOthers_150 rfl 2 rfl ?_
  refine cm_getR (b := 25) dX5_partsOfOthers_151 ha zr_X5_28 (by decide) rfl rfl rfl ?_
  refine mm_iload dX5_partsOfOthers_154 1 rfl ?_
  refine mm_iconst (v := nI 3) dX5_partsOfOthers_156 (by decide) ?_
  refine mn_idiv dX5_partsOfOthers_157 (by omega) (by omega) (by omega) ?_
  refine cm_callV (As := [.int (nI ((fl_ sg k) / (3)))]) (rest := []) (d2 := 0) dX5_partsOfOthers_158 ha (by decide) rfl zz_clX1 zc_X5_230 zs_X1_take rfl rfl (Nat.le_of_ble_eq_true rfl) (Nat.le_of_ble_eq_true rfl) (by decide) (cd_take ha hdr.1.2.2.1 (by omega)) (fun r h1 hq => ?_)
  obtain ⟨rfl, ha, hf'⟩ := hq
  have hf := hf.tr hf'
  obtain ⟨X2, ha, hrx', hdr, hlo⟩ := tk_pack ha hdr
  have hrx := hrx.tr (hrx' m) (by omega) (Nat.le_refl _) (by first | exact Nat.le_refl _ | (rw [List.length_append]; omega))
  have hrq := (hrx' m).q (by omega) hva hrq
  have hct := ct_x hct (fun b i h1 h2 h3 => hlo b i (by omega))
  have hm := (hlo 4 6 (by decide)).trans hm
  refine mm_aload_n dX5_partsOfOthers_161 rfl 2 rfl ?_
  refine cm_getR (b := 25) dX5_partsOfOthers_162 ha zr_X5_28 (by decide) rfl rfl rfl ?_
  refine mm_iload dX5_partsOfOthers_165 1 rfl ?_
  refine mm_iconst (v := nI 3) dX5_partsOfOthers_167 (by decide) ?_
  refine mn_idiv dX5_partsOfOthers_168 (by omega) (by omega) (by omega) ?_
  refine cm_callV (As := [.int (nI ((fl_ sg k) / (3)))]) (rest := []) (d2 := 0) dX5_partsOfOthers_169 ha (by decide) rfl zz_clX1 zc_X5_230 zs_X1_take rfl rfl (Nat.le_of_ble_eq_true rfl) (Nat.le_of_ble_eq_true rfl) (by decide) (cd_take ha hdr.1.2.2.1 (by rw [List.length_append]; show vs.length + 1 < 24; omega)) (fun r h1 hq => ?_)
  obtain ⟨rfl, ha, hf'⟩ := hq
  have hf := hf.tr hf'
  obtain ⟨X3, ha, hrx', hdr, hlo⟩ := tk_pack ha hdr
  have hrx := hrx.tr (hrx' m) (by omega) (Nat.le_refl _) (by first | exact Nat.le_refl _ | (rw [List.length_append]; omega))
  have hrq := (hrx' m).q (by omega) hva hrq
  have hct := ct_x hct (fun b i h1 h2 h3 => hlo b i (by omega))
  have hm := (hlo 4 6 (by decide)).trans hm
  refine mm_iload dX5_partsOfOthers_172 6 rfl ?_
  exact mm_iret dX5_partsOfOthers_174 rfl (⟨_, t, rfl, ha, hf, hrx, hm, by omega, hct, by rw [List.append_assoc] at hdr; exact hdr⟩)
set_option maxRecDepth 100000 in
set_option maxHeartbeats 4000000 in
theorem cR_p18 {l : Launch} {D : va_G} {aa : Nat → ClassId} {b0 : Nat} {h : mm_H} {o : Nat} {X : Nat → Nat → Int32} {Y : Nat → Nat → Int64} {rl : Option Nat} {w : ro_w} {sg a dt : Nat} {E U P H PL RS CO AL LI : Nat → Nat} {m t k c : Nat} {r : List gK} {fs vs : List Nat} (ha : cm_at o X Y rl h) (hva : vA a) (hrq : rq_ X w sg a dt E U P H PL RS CO AL LI) (hm : X 4 6 = nI m) (hm8 : m + 0 ≤ 128) (hct : ct_ X w sg (gd_ sg) r t) (htm : t < m) (hdr : dr_ X fs vs c) (hpv : vs.length + 2 ≤ 24) (hk : k ≤ 6) (hpf : sp_perf sg k = false) (hk5 : k < 6) : mm_V (zz_K l D aa b0) 2 yX5_partsOfOthers cX5_partsOfOthers 7 (some .int) 0 [(0, .ref (o + 3)), (1, .ref (o + a)), (2, .int (nI (18))), (3, .int (nI (k))), (4, .int (nI (t)))] [] h 0 0 (fun rv h' => ∃ (X' : Nat → Nat → Int32) (t' : Nat), rv = some (.int (nI t')) ∧ cm_at o X' Y rl h' ∧ cm_fr o h h' ∧ rx_ m fs.length vs.length X X' ∧ X' 4 6 = nI (m + 0) ∧ t' < m + 0 ∧ ct_ X' w sg (gd_ sg) ([] ++ r) t' ∧ dr_ X' fs (vs ++ [fl_ sg k + fl_ sg k / 2, 0]) c) := by
  have hf := cm_fr.rf (o := o) (h := h)
  have hrx := rx_.rf (m := m) (n := fs.length) (p := vs.length) (X := X)
  have hfb := (fl_b sg hrq.2.2.2.2.1 k (by omega)).1
  refine mm_aload_n dX5_partsOfOthers_0 rfl 1 rfl ?_
  refine mm_iload_n dX5_partsOfOthers_1 rfl 3 rfl ?_
  refine cm_callVr (As := [.int (nI (k))]) (rest := []) (d2 := 1) dX5_partsOfOthers_2 ha (vA_lt hva 0 (by decide)) (vA_0 hva) zz_clX9 zc_X5_221 zs_X9_fullOf rfl rfl (Nat.le_of_ble_eq_true rfl) (Nat.le_of_ble_eq_true rfl) (by decide) (cv_fullOf ha hva hrq.2.2.2.2.2.2 (by omega)) ?_
  refine mn_top (u := .int (nI (fl_ sg k))) (congrArg Value.int (by rw [if_pos (by omega)])) ?_
  refine mm_istore (L' := [(5, .int (nI (fl_ sg k))), (0, .ref (o + 3)), (1, .ref (o + a)), (2, .int (nI (18))), (3, .int (nI (k))), (4, .int (nI (t)))]) dX5_partsOfOthers_5 (by decide) rfl ?_
  refine mm_iconst (v := nI 3) dX5_partsOfOthers_7 (by decide) ?_
  refine mm_aload_n dX5_partsOfOthers_8 rfl 2 rfl ?_
  refine mm_iload_n dX5_partsOfOthers_9 rfl 4 rfl ?_
  refine mm_iconst (v := nI 1) dX5_partsOfOthers_10 (by decide) ?_
  refine mn_iadd dX5_partsOfOthers_11 ?_
  refine cm_callVr (As := [.int (nI ((k) + (1)))]) (rest := [.int (nI (3))]) (d2 := 1) dX5_partsOfOthers_12 ha (vA_lt hva 0 (by decide)) (vA_0 hva) zz_clX9 zc_X5_221 zs_X9_fullOf rfl rfl (Nat.le_of_ble_eq_true rfl) (Nat.le_of_ble_eq_true rfl) (by decide) (cv_fullOf ha hva hrq.2.2.2.2.2.2 (by omega)) ?_
  refine mn_imul dX5_partsOfOthers_15 ?_
  refine mm_istore (L' := [(6, .int (nI ((3) * (if (k) + (1) < 7 then fl_ sg ((k) + (1)) else 0)))), (5, .int (nI (fl_ sg k))), (0, .ref (o + 3)), (1, .ref (o + a)), (2, .int (nI (18))), (3, .int (nI (k))), (4, .int (nI (t)))]) dX5_partsOfOthers_16 (by decide) rfl ?_
  refine mm_iload_n dX5_partsOfOthers_18 rfl 4 rfl ?_
  refine mm_tableOut (tgt := 175) dX5_partsOfOthers_19 (Or.inr (by decide)) (by decide) ?_
  refine mm_aload_n dX5_partsOfOthers_175 rfl 2 rfl ?_
  refine cm_getR (b := 25) dX5_partsOfOthers_176 ha zr_X5_28 (by decide) rfl rfl rfl ?_
  refine mm_iload dX5_partsOfOthers_179 1 rfl ?_
  refine mm_iconst (v := nI 2) dX5_partsOfOthers_181 (by decide) ?_
  refine mn_idiv dX5_partsOfOthers_182 (by omega) (by omega) (by omega) ?_
  refine mm_iconst (v := nI 3) dX5_partsOfOthers_183 (by decide) ?_
  refine mn_imul dX5_partsOfOthers_184 ?_
  refine mn_top (u := .int (nI (fl_ sg k + fl_ sg k / 2))) (congrArg Value.int (by rw [fl_2 sg hrq.2.2.2.2.1 k hk5 hpf])) ?_
  refine cm_callV (As := [.int (nI (fl_ sg k + fl_ sg k / 2))]) (rest := []) (d2 := 1) dX5_partsOfOthers_185 ha (by decide) rfl zz_clX1 zc_X5_233 zs_X1_takeDotted rfl rfl (Nat.le_of_ble_eq_true rfl) (Nat.le_of_ble_eq_true rfl) (by decide) (cd_takeDotted ha hdr.1.2.2.1 (by omega)) (fun r h1 hq => ?_)
  obtain ⟨rfl, ha, hf'⟩ := hq
  have hf := hf.tr hf'
  obtain ⟨X2, ha, hrx', hdr, hlo⟩ := td_pack ha hdr
  have hrx := hrx.tr (hrx' m) (by omega) (Nat.le_refl _) (by first | exact Nat.le_refl _ | (rw [List.length_append]; omega))
  have hrq := (hrx' m).q (by omega) hva hrq
  have hct := ct_x hct (fun b i h1 h2 h3 => hlo b i (by omega))
  have hm := (hlo 4 6 (by decide)).trans hm
  refine mm_iload dX5_partsOfOthers_188 6 rfl ?_
  exact mm_iret dX5_partsOfOthers_190 rfl (⟨_, t, rfl, ha, hf, hrx, hm, by omega, hct, hdr⟩)
