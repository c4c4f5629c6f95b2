/-! the class: times, followers -/
theorem i32_le1 {x : Int32} (h : x ≤ nI 1) : ¬ nI 2 ≤ x := fun q => by
  have h1 := Int32.le_iff_toInt_le.mp h
  have h2 := Int32.le_iff_toInt_le.mp q
  have e1 : (nI 1).toInt = 1 := by decide
  have e2 : (nI 2).toInt = 2 := by decide
  omega
set_option maxRecDepth 100000 in
set_option maxHeartbeats 4000000 in
theorem cM_timeB {l : Launch} {D : va_G} {aa : Nat → ClassId} {b0 : Nat} {h : mm_H} {o : Nat} {X : Nat → Nat → Int32} {Y : Nat → Nat → Int64} {rl : Option Nat} {s : aS} {ST : Nat → Bool} {n : Nat} {i w : Int32} (ha : cm_at o X Y rl h) (hW : WF s) (hI : CI s ST X Y rl) (hn : n < aNv s) (hw : w < 0 ∨ nI 2 ≤ w) : mm_V (zz_K l D aa b0) 2 yX11_time cX11_time 6 (some .long) 0 [(0, .ref (o + 0)), (1, .int (nI (n))), (2, .int (i)), (3, .int (w))] [] h 0 0 (fun rv h' => h' = h ∧ rv = some (.long (-2))) := by
  have hf := cm_fr.rf (o := o) (h := h)
  have hn6 : n < 6 := by have := hW.1.1; omega
  have hva : vA (61 + 10 * n) := Or.inr ⟨n, hn6, rfl⟩
  have hvok := hW.2.1 n hn6
  have hrk := vok_rk hvok
  have hd0 := hvok.2.2.2.2.1
  have hsz24 : aSz s n ≤ 24 := hvok.1.2
  have hL := rD_len hrk
  obtain ⟨hvs, hvw, hr2, hvst, -⟩ := hI.2.1 n hn6
  have hvs := hvs hn
  refine mm_aload_n dX11_time_0 rfl 0 rfl ?_
  refine mm_iload_n dX11_time_1 rfl 1 rfl ?_
  refine cm_callVr (As := [.int (nI (n))]) (rest := []) (d2 := 0) dX11_time_2 ha (by decide) rfl zz_clX11 zc_X11_55 zs_X11_voiceAt rfl rfl (Nat.le_of_ble_eq_true rfl) (Nat.le_of_ble_eq_true rfl) (by decide) (cM_voiceAt ha hI.1.1 hW.1.1 hn) ?_
  refine mm_astore (L' := [(4, .ref (o + (61 + 10 * n))), (0, .ref (o + 0)), (1, .int (nI (n))), (2, .int (i)), (3, .int (w))]) dX11_time_5 (by decide) rfl ?_
  refine mm_aload dX11_time_7 0 rfl ?_
  refine mm_ifnull dX11_time_9 ?_
  refine mm_iload_n dX11_time_12 rfl 4 rfl ?_
  refine mm_if_lt (tgt := 21) dX11_time_13 (by decide) (fun c13 => ?_) (fun c13 => ?_)
  · refine mm_ldc2 (v := (-2)) dX11_time_21 zkLong_X11_181 ?_
    exact mm_lret dX11_time_24 rfl (⟨rfl, rfl⟩)
  · refine mm_iload_n dX11_time_16 rfl 4 rfl ?_
    refine mm_iconst (v := nI 1) dX11_time_17 (by decide) ?_
    refine mm_icmp_le (tgt := 25) dX11_time_18 (by decide) (fun c18 => ?_) (fun c18 => ?_)
    · exact hw.elim (fun z => absurd z c13) (fun z => absurd z (i32_le1 c18))
    · refine mm_ldc2 (v := (-2)) dX11_time_21 zkLong_X11_181 ?_
      exact mm_lret dX11_time_24 rfl (⟨rfl, rfl⟩)
set_option maxRecDepth 100000 in
set_option maxHeartbeats 4000000 in
theorem cM_timeR {l : Launch} {D : va_G} {aa : Nat → ClassId} {b0 : Nat} {h : mm_H} {o : Nat} {X : Nat → Nat → Int32} {Y : Nat → Nat → Int64} {rl : Option Nat} {s : aS} {ST : Nat → Bool} {n : Nat} {i : Int32} {w : Nat} (ha : cm_at o X Y rl h) (hW : WF s) (hI : CI s ST X Y rl) (hn : n < aNv s) (hw : w < 2) (hr0 : pfA (aR s n).length ≠ 0) : mm_V (zz_K l D aa b0) 6 yX11_time cX11_time 6 (some .long) 0 [(0, .ref (o + 0)), (1, .int (nI (n))), (2, .int (i)), (3, .int (nI (w)))] [] h 0 0 (fun rv h' => rv = some (.long (pfA (aR s n).length).toInt64) ∧ ∃ (X' : Nat → Nat → Int32) (Y' : Nat → Nat → Int64) (rl' : Option Nat) (ST' : Nat → Bool), cm_at o X' Y' rl' h' ∧ cm_fr o h h' ∧ CI s ST' X' Y' rl') := by
  have hf := cm_fr.rf (o := o) (h := h)
  have hn6 : n < 6 := by have := hW.1.1; omega
  have hva : vA (61 + 10 * n) := Or.inr ⟨n, hn6, rfl⟩
  have hvok := hW.2.1 n hn6
  have hrk := vok_rk hvok
  have hd0 := hvok.2.2.2.2.1
  have hsz24 : aSz s n ≤ 24 := hvok.1.2
  have hL := rD_len hrk
  obtain ⟨hvs, hvw, hr2, hvst, -⟩ := hI.2.1 n hn6
  have hvs := hvs hn
  refine mm_aload_n dX11_time_0 rfl 0 rfl ?_
  refine mm_iload_n dX11_time_1 rfl 1 rfl ?_
  refine cm_callVr (As := [.int (nI (n))]) (rest := []) (d2 := 0) dX11_time_2 ha (by decide) rfl zz_clX11 zc_X11_55 zs_X11_voiceAt rfl rfl (Nat.le_of_ble_eq_true rfl) (Nat.le_of_ble_eq_true rfl) (by decide) (cM_voiceAt ha hI.1.1 hW.1.1 hn) ?_
  refine mm_astore (L' := [(4, .ref (o + (61 + 10 * n))), (0, .ref (o + 0)), (1, .int (nI (n))), (2, .int (i)), (3, .int (nI (w)))]) dX11_time_5 (by decide) rfl ?_
  refine mm_aload dX11_time_7 0 rfl ?_
  refine mm_ifnull dX11_time_9 ?_
  refine mm_iload_n dX11_time_12 rfl 4 rfl ?_
  refine mn_if_lt (tgt := 21) dX11_time_13 (by decide) (by omega) ?_
  refine mm_iload_n dX11_time_16 rfl 4 rfl ?_
  refine mm_iconst (v := nI 1) dX11_time_17 (by decide) ?_
  refine mn_icmp_le (tgt := 25) dX11_time_18 (by decide) (by omega) (by omega) (fun c18 => ?_) (fun c18 => ?_)
  · refine mm_aload_n dX11_time_25 rfl 1 rfl ?_
    refine mm_aload dX11_time_26 0 rfl ?_
    refine mm_aload dX11_time_28 0 rfl ?_
    refine cm_getI dX11_time_30 ha zr_X11_121 (vA_lt hva 0 (by decide)) (vA_0 hva) rfl ?_
    refine mn_top (u := .int (nI (aPk s n))) (congrArg Value.int ((hvst.1.1))) ?_
    refine cm_callV (As := [.ref (o + (61 + 10 * n)), .int (nI (aPk s n))]) (rest := []) (d2 := 5) dX11_time_33 ha (by decide) rfl zz_clX11 zc_X11_154 zs_X11_refusalOf rfl rfl (Nat.le_of_ble_eq_true rfl) (Nat.le_of_ble_eq_true rfl) (by decide) (cM_refusalOf ha hW hI hn) (fun r h1 hq => ?_)
    obtain ⟨rfl, X1, Y1, rl1, ST1, ha, hf', hI1, hST, hmo⟩ := hq
    have hf := hf.tr hf'
    obtain ⟨hvs, hvw, hr2, hvst, -⟩ := hI1.2.1 n hn6
    have hvs := hvs hn
    rw [hST] at hvst
    obtain ⟨hvk, hpv⟩ := hvst.2.2 rfl
    rw [pf_rf hvok.2.2.2.2.2.2]
    refine mm_istore (L' := [(5, .int (pfA (aR s n).length)), (4, .ref (o + (61 + 10 * n))), (0, .ref (o + 0)), (1, .int (nI (n))), (2, .int (i)), (3, .int (nI (w)))]) dX11_time_36 (by decide) rfl ?_
    refine mm_iload dX11_time_38 0 rfl ?_
    refine mm_if_eq (tgt := 47) dX11_time_40 (by decide) (fun c40 => ?_) (fun c40 => ?_)
    · exact absurd c40 hr0
    · refine mm_iload dX11_time_43 0 rfl ?_
      refine mm_i2l dX11_time_45 ?_
      exact mm_lret dX11_time_46 rfl (⟨rfl, X1, Y1, rl1, ST1, ha, hf, hI1⟩)
  · omega
theorem i32_leS {x : Int32} {n : Nat} (hn : n < 1000) (h : x ≤ nI n) : ¬ nI (n + 1) ≤ x := fun q => by
  have h1 := Int32.le_iff_toInt_le.mp h
  have h2 := Int32.le_iff_toInt_le.mp q
  rw [nI_toInt (by omega)] at h1 h2
  omega
set_option maxRecDepth 100000 in
set_option maxHeartbeats 4000000 in
theorem cM_timeI {l : Launch} {D : va_G} {aa : Nat → ClassId} {b0 : Nat} {h : mm_H} {o : Nat} {X : Nat → Nat → Int32} {Y : Nat → Nat → Int64} {rl : Option Nat} {s : aS} {ST : Nat → Bool} {n : Nat} {i : Int32} {w : Nat} {y : gR} (ha : cm_at o X Y rl h) (hW : WF s) (hI : CI s ST X Y rl) (hn : n < aNv s) (hw : w < 2) (hN : (aR s n).length ≤ 1000) (hL0 : 0 < (aR s n).length) (hy : (aR s n)[aPk s n]? = some y) (hi : i < 0 ∨ nI (aSz s n + 1) ≤ i) : mm_V (zz_K l D aa b0) 6 yX11_time cX11_time 6 (some .long) 0 [(0, .ref (o + 0)), (1, .int (nI (n))), (2, .int (i)), (3, .int (nI (w)))] [] h 0 0 (fun rv h' => rv = some (.long (-1)) ∧ ∃ (X' : Nat → Nat → Int32) (Y' : Nat → Nat → Int64) (rl' : Option Nat) (ST' : Nat → Bool), cm_at o X' Y' rl' h' ∧ cm_fr o h h' ∧ CI s ST' X' Y' rl') := by
  have hf := cm_fr.rf (o := o) (h := h)
  have hn6 : n < 6 := by have := hW.1.1; omega
  have hva : vA (61 + 10 * n) := Or.inr ⟨n, hn6, rfl⟩
  have hvok := hW.2.1 n hn6
  have hrk := vok_rk hvok
  have hd0 := hvok.2.2.2.2.1
  have hsz24 : aSz s n ≤ 24 := hvok.1.2
  have hL := rD_len hrk
  obtain ⟨hvs, hvw, hr2, hvst, -⟩ := hI.2.1 n hn6
  have hvs := hvs hn
  refine mm_aload_n dX11_time_0 rfl 0 rfl ?_
  refine mm_iload_n dX11_time_1 rfl 1 rfl ?_
  refine cm_callVr (As := [.int (nI (n))]) (rest := []) (d2 := 0) dX11_time_2 ha (by decide) rfl zz_clX11 zc_X11_55 zs_X11_voiceAt rfl rfl (Nat.le_of_ble_eq_true rfl) (Nat.le_of_ble_eq_true rfl) (by decide) (cM_voiceAt ha hI.1.1 hW.1.1 hn) ?_
  refine mm_astore (L' := [(4, .ref (o + (61 + 10 * n))), (0, .ref (o + 0)), (1, .int (nI (n))), (2, .int (i)), (3, .int (nI (w)))]) dX11_time_5 (by decide) rfl ?_
  refine mm_aload dX11_time_7 0 rfl ?_
  refine mm_ifnull dX11_time_9 ?_
  refine mm_iload_n dX11_time_12 rfl 4 rfl ?_
  refine mn_if_lt (tgt := 21) dX11_time_13 (by decide) (by omega) ?_
  refine mm_iload_n dX11_time_16 rfl 4 rfl ?_
  refine mm_iconst (v := nI 1) dX11_time_17 (by decide) ?_
  refine mn_icmp_le (tgt := 25) dX11_time_18 (by decide) (by omega) (by omega) (fun c18 => ?_) (fun c18 => ?_)
  · refine mm_aload_n dX11_time_25 rfl 1 rfl ?_
    refine mm_aload dX11_time_26 0 rfl ?_
    refine mm_aload dX11_time_28 0 rfl ?_
    refine cm_getI dX11_time_30 ha zr_X11_121 (vA_lt hva 0 (by decide)) (vA_0 hva) rfl ?_
    refine mn_top (u := .int (nI (aPk s n))) (congrArg Value.int ((hvst.1.1))) ?_
    refine cm_callV (As := [.ref (o + (61 + 10 * n)), .int (nI (aPk s n))]) (rest := []) (d2 := 5) dX11_time_33 ha (by decide) rfl zz_clX11 zc_X11_154 zs_X11_refusalOf rfl rfl (Nat.le_of_ble_eq_true rfl) (Nat.le_of_ble_eq_true rfl) (by decide) (cM_refusalOf ha hW hI hn) (fun r h1 hq => ?_)
    obtain ⟨rfl, X1, Y1, rl1, ST1, ha, hf', hI1, hST, hmo⟩ := hq
    have hf := hf.tr hf'
    obtain ⟨hvs, hvw, hr2, hvst, -⟩ := hI1.2.1 n hn6
    have hvs := hvs hn
    rw [hST] at hvst
    obtain ⟨hvk, hpv⟩ := hvst.2.2 rfl
    rw [pf_rf hvok.2.2.2.2.2.2]
    rw [pfA_1 hN hL0]
    refine mm_istore (L' := [(5, .int (nI (0))), (4, .ref (o + (61 + 10 * n))), (0, .ref (o + 0)), (1, .int (nI (n))), (2, .int (i)), (3, .int (nI (w)))]) dX11_time_36 (by decide) rfl ?_
    refine mm_iload dX11_time_38 0 rfl ?_
    refine mn_if_eq (tgt := 47) dX11_time_40 (by decide) (by omega) (fun c40 => ?_) (fun c40 => ?_)
    · refine mm_iload_n dX11_time_47 rfl 4 rfl ?_
      refine mm_if_lt (tgt := 63) dX11_time_48 (by decide) (fun c48 => ?_) (fun c48 => ?_)
      · refine mm_ldc2 (v := (-1)) dX11_time_63 zkLong_X11_183 ?_
        exact mm_lret dX11_time_66 rfl (⟨rfl, X1, Y1, rl1, ST1, ha, hf, hI1⟩)
      · refine mm_iload_n dX11_time_51 rfl 4 rfl ?_
        refine mm_aload dX11_time_52 1 rfl ?_
        refine cm_getR (b := 61 + 10 * n + 3) dX11_time_54 ha zr_X11_70 (vA_lt hva 0 (by decide)) (vA_0 hva) rfl rfl ?_
        refine cm_getI dX11_time_57 ha zr_X11_74 (vA_lt hva 3 (by decide)) (vA_3 hva) rfl ?_
        refine mn_top (u := .int (nI (aSz s n))) (congrArg Value.int ((hvw.1.1))) ?_
        refine mm_icmp_le (tgt := 67) dX11_time_60 (by decide) (fun c60 => ?_) (fun c60 => ?_)
        · exact hi.elim (fun z => absurd z c48) (fun z => absurd z (i32_leS (by omega) c60))
        · refine mm_ldc2 (v := (-1)) dX11_time_63 zkLong_X11_183 ?_
          exact mm_lret dX11_time_66 rfl (⟨rfl, X1, Y1, rl1, ST1, ha, hf, hI1⟩)
    · exact absurd rfl c40
  · omega
set_option maxRecDepth 100000 in
set_option maxHeartbeats 4000000 in
theorem cM_time {l : Launch} {D : va_G} {aa : Nat → ClassId} {b0 : Nat} {h : mm_H} {o : Nat} {X : Nat → Nat → Int32} {Y : Nat → Nat → Int64} {rl : Option Nat} {s : aS} {ST : Nat → Bool} {n : Nat} {i w : Nat} {y : gR} (ha : cm_at o X Y rl h) (hW : WF s) (hI : CI s ST X Y rl) (hn : n < aNv s) (hw : w < 2) (hN : (aR s n).length ≤ 1000) (hL0 : 0 < (aR s n).length) (hy : (aR s n)[aPk s n]? = some y) (hi : i ≤ aSz s n) : mm_V (zz_K l D aa b0) 6 yX11_time cX11_time 6 (some .long) 0 [(0, .ref (o + 0)), (1, .int (nI (n))), (2, .int (nI (i))), (3, .int (nI (w)))] [] h 0 0 (fun rv h' => rv = some (.long (lN (if w = 0 then (aT s n y i).1 else (aT s n y i).2))) ∧ ∃ (X' : Nat → Nat → Int32) (Y' : Nat → Nat → Int64) (rl' : Option Nat) (ST' : Nat → Bool), cm_at o X' Y' rl' h' ∧ cm_fr o h h' ∧ CI s ST' X' Y' rl') := by
  have hf := cm_fr.rf (o := o) (h := h)
  have hn6 : n < 6 := by have := hW.1.1; omega
  have hva : vA (61 + 10 * n) := Or.inr ⟨n, hn6, rfl⟩
  have hvok := hW.2.1 n hn6
  have hrk := vok_rk hvok
  have hd0 := hvok.2.2.2.2.1
  have hsz24 : aSz s n ≤ 24 := hvok.1.2
  have hL := rD_len hrk
  obtain ⟨hvs, hvw, hr2, hvst, -⟩ := hI.2.1 n hn6
  have hvs := hvs hn
  refine mm_aload_n dX11_time_0 rfl 0 rfl ?_
  refine mm_iload_n dX11_time_1 rfl 1 rfl ?_
  refine cm_callVr (As := [.int (nI (n))]) (rest := []) (d2 := 0) dX11_time_2 ha (by decide) rfl zz_clX11 zc_X11_55 zs_X11_voiceAt rfl rfl (Nat.le_of_ble_eq_true rfl) (Nat.le_of_ble_eq_true rfl) (by decide) (cM_voiceAt ha hI.1.1 hW.1.1 hn) ?_
  refine mm_astore (L' := [(4, .ref (o + (61 + 10 * n))), (0, .ref (o + 0)), (1, .int (nI (n))), (2, .int (nI (i))), (3, .int (nI (w)))]) dX11_time_5 (by decide) rfl ?_
  refine mm_aload dX11_time_7 0 rfl ?_
  refine mm_ifnull dX11_time_9 ?_
  refine mm_iload_n dX11_time_12 rfl 4 rfl ?_
  refine mn_if_lt (tgt := 21) dX11_time_13 (by decide) (by omega) ?_
  refine mm_iload_n dX11_time_16 rfl 4 rfl ?_
  refine mm_iconst (v := nI 1) dX11_time_17 (by decide) ?_
  refine mn_icmp_le (tgt := 25) dX11_time_18 (by decide) (by omega) (by omega) (fun c18 => ?_) (fun c18 => ?_)
  · refine mm_aload_n dX11_time_25 rfl 1 rfl ?_
    refine mm_aload dX11_time_26 0 rfl ?_
    refine mm_aload dX11_time_28 0 rfl ?_
    refine cm_getI dX11_time_30 ha zr_X11_121 (vA_lt hva 0 (by decide)) (vA_0 hva) rfl ?_
    refine mn_top (u := .int (nI (aPk s n))) (congrArg Value.int ((hvst.1.1))) ?_
    refine cm_callV (As := [.ref (o + (61 + 10 * n)), .int (nI (aPk s n))]) (rest := []) (d2 := 5) dX11_time_33 ha (by decide) rfl zz_clX11 zc_X11_154 zs_X11_refusalOf rfl rfl (Nat.le_of_ble_eq_true rfl) (Nat.le_of_ble_eq_true rfl) (by decide) (cM_refusalOf ha hW hI hn) (fun r h1 hq => ?_)
    obtain ⟨rfl, X1, Y1, rl1, ST1, ha, hf', hI1, hST, hmo⟩ := hq
    have hf := hf.tr hf'
    obtain ⟨hvs, hvw, hr2, hvst, -⟩ := hI1.2.1 n hn6
    have hvs := hvs hn
    rw [hST] at hvst
    obtain ⟨hvk, hpv⟩ := hvst.2.2 rfl
    rw [pf_rf hvok.2.2.2.2.2.2]
    rw [pfA_1 hN hL0]
    refine mm_istore (L' := [(5, .int (nI (0))), (4, .ref (o + (61 + 10 * n))), (0, .ref (o + 0)), (1, .int (nI (n))), (2, .int (nI (i))), (3, .int (nI (w)))]) dX11_time_36 (by decide) rfl ?_
    refine mm_iload dX11_time_38 0 rfl ?_
    refine mn_if_eq (tgt := 47) dX11_time_40 (by decide) (by omega) (fun c40 => ?_) (fun c40 => ?_)
    · refine mm_iload_n dX11_time_47 rfl 4 rfl ?_
      refine mn_if_lt (tgt := 63) dX11_time_48 (by decide) (by omega) ?_
      refine mm_iload_n dX11_time_51 rfl 4 rfl ?_
      refine mm_aload dX11_time_52 1 rfl ?_
      refine cm_getR (b := 61 + 10 * n + 3) dX11_time_54 ha zr_X11_70 (vA_lt hva 0 (by decide)) (vA_0 hva) rfl rfl ?_
      refine cm_getI dX11_time_57 ha zr_X11_74 (vA_lt hva 3 (by decide)) (vA_3 hva) rfl ?_
      refine mn_top (u := .int (nI (aSz s n))) (congrArg Value.int ((hvw.1.1))) ?_
      refine mn_icmp_le (tgt := 67) dX11_time_60 (by decide) (by omega) (by omega) (fun c60 => ?_) (fun c60 => ?_)
      · refine mm_aload_n dX11_time_67 rfl 2 rfl ?_
        refine cm_getR (b := 51) dX11_time_68 ha zr_X11_38 (by decide) rfl rfl rfl ?_
        refine mm_aload dX11_time_71 1 rfl ?_
        refine cm_callV (As := [.ref (o + (61 + 10 * n))]) (rest := []) (d2 := 3) dX11_time_73 ha (by decide) rfl zz_clX8 zc_X11_185 zs_X8_fill rfl rfl (Nat.le_of_ble_eq_true rfl) (Nat.le_of_ble_eq_true rfl) (by decide) (ct_fill (a := 51) (v := 61 + 10 * n) (n := aSz s n) (V := aV y) (ua := fun i => aUa s (24 * n + i)) (da := fun i => aDa s (24 * n + i)) ha (Or.inl rfl) hva hvw.1.1 hsz24 (hpv hN y hy) (fun i hi => (hr2.2 i hi).2.1) (fun i hi => (hr2.2 i hi).2.2) (a_sz hW hn6 hy) (a_u1 hW hn6)) (fun r h1 hq => ?_)
        obtain ⟨rfl, Y2, ha, hf', hfy, hTT⟩ := hq
        have hf := hf.tr hf'
        have hTi := hTT i hi
        refine mm_iload_n dX11_time_76 rfl 5 rfl ?_
        refine mn_if_ne (tgt := 91) dX11_time_77 (by decide) (by omega) (fun c77 => ?_) (fun c77 => ?_)
        · refine mm_aload_n dX11_time_91 rfl 2 rfl ?_
          refine cm_getR (b := 51) dX11_time_92 ha zr_X11_38 (by decide) rfl rfl rfl ?_
          refine mm_iload_n dX11_time_95 rfl 4 rfl ?_
          refine cm_callVr (As := [.int (nI (i))]) (rest := []) (d2 := 0) dX11_time_96 ha (by decide) rfl zz_clX8 zc_X11_192 zs_X8_downAt rfl rfl (Nat.le_of_ble_eq_true rfl) (Nat.le_of_ble_eq_true rfl) (by decide) (ct_downAt (a := 51) (n := aSz s n) ha (Or.inl rfl) xu_s hsz24 hi hTi.2) ?_
          exact mm_lret dX11_time_99 rfl (⟨by rw [if_neg (by omega)]; rfl, _, Y2, rl1, ST1, ha, hf, CI_sc (X' := xu X1 51 4 (nI (aSz s n))) hI1 (hI1.2.2.2.2.1.2.elim (fun m hm => ⟨m, hm.1, (xu_a (by decide)).trans hm.2⟩)) (fun b i z => xu_a (by omega)) (fun b i z => hfy b i (by omega))⟩)
        · refine mm_aload_n dX11_time_80 rfl 2 rfl ?_
          refine cm_getR (b := 51) dX11_time_81 ha zr_X11_38 (by decide) rfl rfl rfl ?_
          refine mm_iload_n dX11_time_84 rfl 4 rfl ?_
          refine cm_callVr (As := [.int (nI (i))]) (rest := []) (d2 := 0) dX11_time_85 ha (by decide) rfl zz_clX8 zc_X11_188 zs_X8_upAt rfl rfl (Nat.le_of_ble_eq_true rfl) (Nat.le_of_ble_eq_true rfl) (by decide) (ct_upAt (a := 51) (n := aSz s n) ha (Or.inl rfl) xu_s hsz24 hi hTi.1) ?_
          refine mm_goto (tgt := 99) dX11_time_88 (by decide) ?_
          exact mm_lret dX11_time_99 rfl (⟨by rw [if_pos (by omega)]; rfl, _, Y2, rl1, ST1, ha, hf, CI_sc (X' := xu X1 51 4 (nI (aSz s n))) hI1 (hI1.2.2.2.2.1.2.elim (fun m hm => ⟨m, hm.1, (xu_a (by decide)).trans hm.2⟩)) (fun b i z => xu_a (by omega)) (fun b i z => hfy b i (by omega))⟩)
      · omega
    · exact absurd rfl c40
  · omega
set_option maxRecDepth 100000 in
set_option maxHeartbeats 4000000 in
theorem cM_atB {l : Launch} {D : va_G} {aa : Nat → ClassId} {b0 : Nat} {h : mm_H} {o : Nat} {X : Nat → Nat → Int32} {Y : Nat → Nat → Int64} {rl : Option Nat} {s : aS} {ST : Nat → Bool} {n : Nat} {u d : Int32} (ha : cm_at o X Y rl h) (hW : WF s) (hI : CI s ST X Y rl) (hn : n < aNv s) (hb : u < 0 ∨ d < nI 1) : mm_V (zz_K l D aa b0) 2 yX11_at cX11_at 7 (some .int) 0 [(0, .ref (o + 0)), (1, .int (nI (n))), (2, .int (u)), (3, .int (d))] [] h 0 0 (fun rv h' => h' = h ∧ rv = some (.int (-2))) := by
  have hf := cm_fr.rf (o := o) (h := h)
  have hn6 : n < 6 := by have := hW.1.1; omega
  have hva : vA (61 + 10 * n) := Or.inr ⟨n, hn6, rfl⟩
  have hvok := hW.2.1 n hn6
  have hrk := vok_rk hvok
  have hd0 := hvok.2.2.2.2.1
  have hsz24 : aSz s n ≤ 24 := hvok.1.2
  have hL := rD_len hrk
  obtain ⟨hvs, hvw, hr2, hvst, -⟩ := hI.2.1 n hn6
  have hvs := hvs hn
  refine mm_aload_n dX11_at_0 rfl 0 rfl ?_
  refine mm_iload_n dX11_at_1 rfl 1 rfl ?_
  refine cm_callVr (As := [.int (nI (n))]) (rest := []) (d2 := 0) dX11_at_2 ha (by decide) rfl zz_clX11 zc_X11_55 zs_X11_voiceAt rfl rfl (Nat.le_of_ble_eq_true rfl) (Nat.le_of_ble_eq_true rfl) (by decide) (cM_voiceAt ha hI.1.1 hW.1.1 hn) ?_
  refine mm_astore (L' := [(4, .ref (o + (61 + 10 * n))), (0, .ref (o + 0)), (1, .int (nI (n))), (2, .int (u)), (3, .int (d))]) dX11_at_5 (by decide) rfl ?_
  refine mm_aload dX11_at_7 0 rfl ?_
  refine mm_ifnull dX11_at_9 ?_
  refine mm_iload_n dX11_at_12 rfl 3 rfl ?_
  refine mm_if_lt (tgt := 21) dX11_at_13 (by decide) (fun c13 => ?_) (fun c13 => ?_)
  · refine mm_bipush (v := (-2)) dX11_at_21 (by decide) ?_
    exact mm_iret dX11_at_23 rfl (⟨rfl, rfl⟩)
  · refine mm_iload_n dX11_at_16 rfl 4 rfl ?_
    refine mm_iconst (v := nI 1) dX11_at_17 (by decide) ?_
    refine mm_icmp_ge (tgt := 24) dX11_at_18 (by decide) (fun c18 => ?_) (fun c18 => ?_)
    · exact hb.elim (fun z => absurd z c13) (fun z => absurd c18 (i32_nle z))
    · refine mm_bipush (v := (-2)) dX11_at_21 (by decide) ?_
      exact mm_iret dX11_at_23 rfl (⟨rfl, rfl⟩)
set_option maxRecDepth 100000 in
set_option maxHeartbeats 4000000 in
theorem cM_atR {l : Launch} {D : va_G} {aa : Nat → ClassId} {b0 : Nat} {h : mm_H} {o : Nat} {X : Nat → Nat → Int32} {Y : Nat → Nat → Int64} {rl : Option Nat} {s : aS} {ST : Nat → Bool} {n : Nat} {u d : Nat} (ha : cm_at o X Y rl h) (hW : WF s) (hI : CI s ST X Y rl) (hn : n < aNv s) (hu : u < 2 ^ 31) (hd : 0 < d ∧ d < 2 ^ 31) (hr0 : pfA (aR s n).length ≠ 0) : mm_V (zz_K l D aa b0) 6 yX11_at cX11_at 7 (some .int) 0 [(0, .ref (o + 0)), (1, .int (nI (n))), (2, .int (nI (u))), (3, .int (nI (d)))] [] h 0 0 (fun rv h' => rv = some (.int (pfA (aR s n).length)) ∧ ∃ (X' : Nat → Nat → Int32) (Y' : Nat → Nat → Int64) (rl' : Option Nat) (ST' : Nat → Bool), cm_at o X' Y' rl' h' ∧ cm_fr o h h' ∧ CI s ST' X' Y' rl') := by
  have hf := cm_fr.rf (o := o) (h := h)
  have hn6 : n < 6 := by have := hW.1.1; omega
  have hva : vA (61 + 10 * n) := Or.inr ⟨n, hn6, rfl⟩
  have hvok := hW.2.1 n hn6
  have hrk := vok_rk hvok
  have hd0 := hvok.2.2.2.2.1
  have hsz24 : aSz s n ≤ 24 := hvok.1.2
  have hL := rD_len hrk
  obtain ⟨hvs, hvw, hr2, hvst, -⟩ := hI.2.1 n hn6
  have hvs := hvs hn
  refine mm_aload_n dX11_at_0 rfl 0 rfl ?_
  refine mm_iload_n dX11_at_1 rfl 1 rfl ?_
  refine cm_callVr (As := [.int (nI (n))]) (rest := []) (d2 := 0) dX11_at_2 ha (by decide) rfl zz_clX11 zc_X11_55 zs_X11_voiceAt rfl rfl (Nat.le_of_ble_eq_true rfl) (Nat.le_of_ble_eq_true rfl) (by decide) (cM_voiceAt ha hI.1.1 hW.1.1 hn) ?_
  refine mm_astore (L' := [(4, .ref (o + (61 + 10 * n))), (0, .ref (o + 0)), (1, .int (nI (n))), (2, .int (nI (u))), (3, .int (nI (d)))]) dX11_at_5 (by decide) rfl ?_
  refine mm_aload dX11_at_7 0 rfl ?_
  refine mm_ifnull dX11_at_9 ?_
  refine mm_iload_n dX11_at_12 rfl 3 rfl ?_
  refine mn_if_lt (tgt := 21) dX11_at_13 (by decide) (by omega) ?_
  refine mm_iload_n dX11_at_16 rfl 4 rfl ?_
  refine mm_iconst (v := nI 1) dX11_at_17 (by decide) ?_
  refine mn_icmp_ge (tgt := 24) dX11_at_18 (by decide) (by omega) (by omega) (fun c18 => ?_) (fun c18 => ?_)
  · refine mm_aload_n dX11_at_24 rfl 1 rfl ?_
    refine mm_aload dX11_at_25 0 rfl ?_
    refine mm_aload dX11_at_27 0 rfl ?_
    refine cm_getI dX11_at_29 ha zr_X11_121 (vA_lt hva 0 (by decide)) (vA_0 hva) rfl ?_
    refine mn_top (u := .int (nI (aPk s n))) (congrArg Value.int ((hvst.1.1))) ?_
    refine cm_callV (As := [.ref (o + (61 + 10 * n)), .int (nI (aPk s n))]) (rest := []) (d2 := 5) dX11_at_32 ha (by decide) rfl zz_clX11 zc_X11_154 zs_X11_refusalOf rfl rfl (Nat.le_of_ble_eq_true rfl) (Nat.le_of_ble_eq_true rfl) (by decide) (cM_refusalOf ha hW hI hn) (fun r h1 hq => ?_)
    obtain ⟨rfl, X1, Y1, rl1, ST1, ha, hf', hI1, hST, hmo⟩ := hq
    have hf := hf.tr hf'
    obtain ⟨hvs, hvw, hr2, hvst, -⟩ := hI1.2.1 n hn6
    have hvs := hvs hn
    rw [hST] at hvst
    obtain ⟨hvk, hpv⟩ := hvst.2.2 rfl
    rw [pf_rf hvok.2.2.2.2.2.2]
    refine mm_istore (L' := [(5, .int (pfA (aR s n).length)), (4, .ref (o + (61 + 10 * n))), (0, .ref (o + 0)), (1, .int (nI (n))), (2, .int (nI (u))), (3, .int (nI (d)))]) dX11_at_35 (by decide) rfl ?_
    refine mm_iload dX11_at_37 0 rfl ?_
    refine mm_if_eq (tgt := 45) dX11_at_39 (by decide) (fun c39 => ?_) (fun c39 => ?_)
    · exact absurd c39 hr0
    · refine mm_iload dX11_at_42 0 rfl ?_
      exact mm_iret dX11_at_44 rfl (⟨rfl, X1, Y1, rl1, ST1, ha, hf, hI1⟩)
  · omega
set_option maxRecDepth 100000 in
set_option maxHeartbeats 4000000 in
theorem cM_at {l : Launch} {D : va_G} {aa : Nat → ClassId} {b0 : Nat} {h : mm_H} {o : Nat} {X : Nat → Nat → Int32} {Y : Nat → Nat → Int64} {rl : Option Nat} {s : aS} {ST : Nat → Bool} {n : Nat} {u d : Nat} {y : gR} (ha : cm_at o X Y rl h) (hW : WF s) (hI : CI s ST X Y rl) (hn : n < aNv s) (hu : u < 2 ^ 31) (hd : 0 < d ∧ d < 2 ^ 31) (hN : (aR s n).length ≤ 1000) (hL0 : 0 < (aR s n).length) (hy : (aR s n)[aPk s n]? = some y) : mm_V (zz_K l D aa b0) 6 yX11_at cX11_at 7 (some .int) 0 [(0, .ref (o + 0)), (1, .int (nI (n))), (2, .int (nI (u))), (3, .int (nI (d)))] [] h 0 0 (fun rv h' => rv = some (.int (atS (aT s n y) u d (aSz s n) 0)) ∧ ∃ (X' : Nat → Nat → Int32) (Y' : Nat → Nat → Int64) (rl' : Option Nat) (ST' : Nat → Bool), cm_at o X' Y' rl' h' ∧ cm_fr o h h' ∧ CI s ST' X' Y' rl') := by
  have hf := cm_fr.rf (o := o) (h := h)
  have hn6 : n < 6 := by have := hW.1.1; omega
  have hva : vA (61 + 10 * n) := Or.inr ⟨n, hn6, rfl⟩
  have hvok := hW.2.1 n hn6
  have hrk := vok_rk hvok
  have hd0 := hvok.2.2.2.2.1
  have hsz24 : aSz s n ≤ 24 := hvok.1.2
  have hL := rD_len hrk
  obtain ⟨hvs, hvw, hr2, hvst, -⟩ := hI.2.1 n hn6
  have hvs := hvs hn
  refine mm_aload_n dX11_at_0 rfl 0 rfl ?_
  refine mm_iload_n dX11_at_1 rfl 1 rfl ?_
  refine cm_callVr (As := [.int (nI (n))]) (rest := []) (d2 := 0) dX11_at_2 ha (by decide) rfl zz_clX11 zc_X11_55 zs_X11_voiceAt rfl rfl (Nat.le_of_ble_eq_true rfl) (Nat.le_of_ble_eq_true rfl) (by decide) (cM_voiceAt ha hI.1.1 hW.1.1 hn) ?_
  refine mm_astore (L' := [(4, .ref (o + (61 + 10 * n))), (0, .ref (o + 0)), (1, .int (nI (n))), (2, .int (nI (u))), (3, .int (nI (d)))]) dX11_at_5 (by decide) rfl ?_
  refine mm_aload dX11_at_7 0 rfl ?_
  refine mm_ifnull dX11_at_9 ?_
  refine mm_iload_n dX11_at_12 rfl 3 rfl ?_
  refine mn_if_lt (tgt := 21) dX11_at_13 (by decide) (by omega) ?_
  refine mm_iload_n dX11_at_16 rfl 4 rfl ?_
  refine mm_iconst (v := nI 1) dX11_at_17 (by decide) ?_
  refine mn_icmp_ge (tgt := 24) dX11_at_18 (by decide) (by omega) (by omega) (fun c18 => ?_) (fun c18 => ?_)
  · refine mm_aload_n dX11_at_24 rfl 1 rfl ?_
    refine mm_aload dX11_at_25 0 rfl ?_
    refine mm_aload dX11_at_27 0 rfl ?_
    refine cm_getI dX11_at_29 ha zr_X11_121 (vA_lt hva 0 (by decide)) (vA_0 hva) rfl ?_
    refine mn_top (u := .int (nI (aPk s n))) (congrArg Value.int ((hvst.1.1))) ?_
    refine cm_callV (As := [.ref (o + (61 + 10 * n)), .int (nI (aPk s n))]) (rest := []) (d2 := 5) dX11_at_32 ha (by decide) rfl zz_clX11 zc_X11_154 zs_X11_refusalOf rfl rfl (Nat.le_of_ble_eq_true rfl) (Nat.le_of_ble_eq_true rfl) (by decide) (cM_refusalOf ha hW hI hn) (fun r h1 hq => ?_)
    obtain ⟨rfl, X1, Y1, rl1, ST1, ha, hf', hI1, hST, hmo⟩ := hq
    have hf := hf.tr hf'
    obtain ⟨hvs, hvw, hr2, hvst, -⟩ := hI1.2.1 n hn6
    have hvs := hvs hn
    rw [hST] at hvst
    obtain ⟨hvk, hpv⟩ := hvst.2.2 rfl
    rw [pf_rf hvok.2.2.2.2.2.2]
    rw [pfA_1 hN hL0]
    refine mm_istore (L' := [(5, .int (nI (0))), (4, .ref (o + (61 + 10 * n))), (0, .ref (o + 0)), (1, .int (nI (n))), (2, .int (nI (u))), (3, .int (nI (d)))]) dX11_at_35 (by decide) rfl ?_
    refine mm_iload dX11_at_37 0 rfl ?_
    refine mn_if_eq (tgt := 45) dX11_at_39 (by decide) (by omega) (fun c39 => ?_) (fun c39 => ?_)
    · refine mm_aload_n dX11_at_45 rfl 2 rfl ?_
      refine cm_getR (b := 51) dX11_at_46 ha zr_X11_38 (by decide) rfl rfl rfl ?_
      refine mm_aload dX11_at_49 1 rfl ?_
      refine cm_callV (As := [.ref (o + (61 + 10 * n))]) (rest := []) (d2 := 3) dX11_at_51 ha (by decide) rfl zz_clX8 zc_X11_185 zs_X8_fill rfl rfl (Nat.le_of_ble_eq_true rfl) (Nat.le_of_ble_eq_true rfl) (by decide) (ct_fill (a := 51) (v := 61 + 10 * n) (n := aSz s n) (V := aV y) (ua := fun i => aUa s (24 * n + i)) (da := fun i => aDa s (24 * n + i)) ha (Or.inl rfl) hva hvw.1.1 hsz24 (hpv hN y hy) (fun i hi => (hr2.2 i hi).2.1) (fun i hi => (hr2.2 i hi).2.2) (a_sz hW hn6 hy) (a_u1 hW hn6)) (fun r h1 hq => ?_)
      obtain ⟨rfl, Y2, ha, hf', hfy, hTT⟩ := hq
      have hf := hf.tr hf'
      have hI2 := CI_sc (X' := xu X1 51 4 (nI (aSz s n))) hI1 (hI1.2.2.2.2.1.2.elim (fun m hm => ⟨m, hm.1, (xu_a (by decide)).trans hm.2⟩)) (fun b i z => xu_a (by omega)) (fun b i z => hfy b i (by omega))
      refine mm_iconst (v := nI 0) dX11_at_54 (by decide) ?_
      refine mm_istore (L' := [(6, .int (nI (0))), (5, .int (nI (0))), (4, .ref (o + (61 + 10 * n))), (0, .ref (o + 0)), (1, .int (nI (n))), (2, .int (nI (u))), (3, .int (nI (d)))]) dX11_at_55 (by decide) rfl ?_
      suffices lp : ∀ (m i : Nat), i + m = aSz s n → atS (aT s n y) u d (aSz s n) 0 = atS (aT s n y) u d m i → mm_V (zz_K l D aa b0) 6 yX11_at cX11_at 7 (some .int) 57 [(6, .int (nI (i))), (5, .int (nI (0))), (4, .ref (o + (61 + 10 * n))), (0, .ref (o + 0)), (1, .int (nI (n))), (2, .int (nI (u))), (3, .int (nI (d)))] [] h1 0 0 (fun rv h' => rv = some (.int (atS (aT s n y) u d (aSz s n) 0)) ∧ ∃ (X' : Nat → Nat → Int32) (Y' : Nat → Nat → Int64) (rl' : Option Nat) (ST' : Nat → Bool), cm_at o X' Y' rl' h' ∧ cm_fr o h h' ∧ CI s ST' X' Y' rl') from lp (aSz s n) 0 (by omega) rfl
      intro m
      induction m with
      | zero =>
        intro i hm he
        refine mm_iload dX11_at_57 0 rfl ?_
        refine mm_aload dX11_at_59 2 rfl ?_
        refine cm_getR (b := 61 + 10 * n + 3) dX11_at_61 ha zr_X11_70 (vA_lt hva 0 (by decide)) (vA_0 hva) rfl rfl ?_
        refine cm_getI dX11_at_64 ha zr_X11_74 (vA_lt hva 3 (by decide)) (vA_3 hva) rfl ?_
        refine mn_top (u := .int (nI (aSz s n))) (congrArg Value.int (((xu_a (by omega)).trans hvw.1.1))) ?_
        refine mn_icmp_ge (tgt := 113) dX11_at_67 (by decide) (by omega) (by omega) (fun c67 => ?_) (fun c67 => ?_)
        · refine mm_iconst (v := (-1)) dX11_at_113 (by decide) ?_
          exact mm_iret dX11_at_114 rfl (⟨by rw [he]; rfl, _, Y2, rl1, ST1, ha, hf, hI2⟩)
        · omega
      | succ m ih =>
        intro i hm he
        refine mm_iload dX11_at_57 0 rfl ?_
        refine mm_aload dX11_at_59 2 rfl ?_
        refine cm_getR (b := 61 + 10 * n + 3) dX11_at_61 ha zr_X11_70 (vA_lt hva 0 (by decide)) (vA_0 hva) rfl rfl ?_
        refine cm_getI dX11_at_64 ha zr_X11_74 (vA_lt hva 3 (by decide)) (vA_3 hva) rfl ?_
        refine mn_top (u := .int (nI (aSz s n))) (congrArg Value.int (((xu_a (by omega)).trans hvw.1.1))) ?_
        refine mn_icmp_ge (tgt := 113) dX11_at_67 (by decide) (by omega) (by omega) (fun c67 => ?_) (fun c67 => ?_)
        · omega
        · have b1 := a_tb hW hn6 hy (i := i) (by omega)
          have b2 := a_tb hW hn6 hy (i := i + 1) (by omega)
          have t1 := hTT i (by omega)
          have t2 := hTT (i + 1) (by omega)
          refine mm_aload_n dX11_at_70 rfl 3 rfl ?_
          refine cm_getR (b := 51) dX11_at_71 ha zr_X11_38 (by decide) rfl rfl rfl ?_
          refine mm_iload dX11_at_74 0 rfl ?_
          refine mm_iload_n dX11_at_76 rfl 5 rfl ?_
          refine mn_i2l dX11_at_77 (by omega) ?_
          refine mm_iload_n dX11_at_78 rfl 6 rfl ?_
          refine mn_i2l dX11_at_79 (by omega) ?_
          refine cm_callVr (As := [.int (nI (i)), .long (lN (u)), .long (lN (d))]) (rest := []) (d2 := 3) dX11_at_80 ha (by decide) rfl zz_clX8 zc_X11_195 zs_X8_compareAt rfl rfl (Nat.le_of_ble_eq_true rfl) (Nat.le_of_ble_eq_true rfl) (by decide) (ct_compareAt (a := 51) (n := aSz s n) (i := i) (u := (aT s n y (i)).1) (d := (aT s n y (i)).2) ha (Or.inl rfl) xu_s hsz24 (by omega) t1.1 t1.2 b1.1 b1.2.1 (by omega) (by omega) b1.2.2 hd.1) ?_
          refine mm_if_gt (tgt := 107) dX11_at_83 (by decide) (fun c83 => ?_) (fun c83 => ?_)
          · refine mn_iinc (m := 1) (L' := [(6, .int (nI (i + 1))), (5, .int (nI (0))), (4, .ref (o + (61 + 10 * n))), (0, .ref (o + 0)), (1, .int (nI (n))), (2, .int (nI (u))), (3, .int (nI (d)))]) dX11_at_107 (by decide) 0 rfl (by decide) rfl ?_
            refine mm_goto (tgt := 57) dX11_at_110 (by decide) ?_
            refine mn_sub [0, 1, 2, 3, 4, 5, 6] rfl ?_
            exact ih (i + 1) (by omega) (he.trans (if_neg (fun z => absurd z.1 (by have := cm3_gt0.mp c83; omega))))
          · refine mm_aload_n dX11_at_86 rfl 3 rfl ?_
            refine cm_getR (b := 51) dX11_at_87 ha zr_X11_38 (by decide) rfl rfl rfl ?_
            refine mm_iload dX11_at_90 0 rfl ?_
            refine mm_iconst (v := nI 1) dX11_at_92 (by decide) ?_
            refine mn_iadd dX11_at_93 ?_
            refine mm_iload_n dX11_at_94 rfl 5 rfl ?_
            refine mn_i2l dX11_at_95 (by omega) ?_
            refine mm_iload_n dX11_at_96 rfl 6 rfl ?_
            refine mn_i2l dX11_at_97 (by omega) ?_
            refine cm_callVr (As := [.int (nI ((i) + (1))), .long (lN (u)), .long (lN (d))]) (rest := []) (d2 := 3) dX11_at_98 ha (by decide) rfl zz_clX8 zc_X11_195 zs_X8_compareAt rfl rfl (Nat.le_of_ble_eq_true rfl) (Nat.le_of_ble_eq_true rfl) (by decide) (ct_compareAt (a := 51) (n := aSz s n) (i := i + 1) (u := (aT s n y (i + 1)).1) (d := (aT s n y (i + 1)).2) ha (Or.inl rfl) xu_s hsz24 (by omega) t2.1 t2.2 b2.1 b2.2.1 (by omega) (by omega) b2.2.2 hd.1) ?_
            refine mm_if_le (tgt := 107) dX11_at_101 (by decide) (fun c101 => ?_) (fun c101 => ?_)
            · refine mn_iinc (m := 1) (L' := [(6, .int (nI (i + 1))), (5, .int (nI (0))), (4, .ref (o + (61 + 10 * n))), (0, .ref (o + 0)), (1, .int (nI (n))), (2, .int (nI (u))), (3, .int (nI (d)))]) dX11_at_107 (by decide) 0 rfl (by decide) rfl ?_
              refine mm_goto (tgt := 57) dX11_at_110 (by decide) ?_
              refine mn_sub [0, 1, 2, 3, 4, 5, 6] rfl ?_
              exact ih (i + 1) (by omega) (he.trans (if_neg (fun z => absurd z.2 (by have := cm3_le.mp c101; omega))))
            · refine mm_iload dX11_at_104 0 rfl ?_
              exact mm_iret dX11_at_106 rfl (⟨by rw [he]; exact congrArg (fun z => some (Value.int z)) (if_pos ⟨cm3_le.mp (Int32.not_lt.mp c83), cm3_gt0.mp (Int32.not_le.mp c101)⟩).symm, _, Y2, rl1, ST1, ha, hf, hI2⟩)
    · exact absurd rfl c39
  · omega
