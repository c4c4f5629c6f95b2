/-! the class: canons, followers, what was written -/
def aFw (s : aS) (n : Nat) (y : gR) (how bh : Nat) (hg : Int) : List fE := (fwst_ (fun i => aSo s (24 * n + i)) (fun i => aPi s (24 * n + i)) (aV y) (fun i => aUa s (24 * n + i)) (fun i => aDa s (24 * n + i)) (aSz s n) how bh hg (aSz s n)).1
set_option maxRecDepth 100000 in
set_option maxHeartbeats 4000000 in
theorem cM_canonB {l : Launch} {D : va_G} {aa : Nat → ClassId} {b0 : Nat} {h : mm_H} {o : Nat} {X : Nat → Nat → Int32} {Y : Nat → Nat → Int64} {rl : Option Nat} {s : aS} {ST : Nat → Bool} {n : Nat} {how bh hg : Int32} (ha : cm_at o X Y rl h) (hW : WF s) (hI : CI s ST X Y rl) (hn : n < aNv s) (hb : ¬ (0 ≤ how ∧ how ≤ nI 7 ∧ 0 ≤ bh ∧ bh ≤ nI 100000 ∧ (-40) ≤ hg ∧ hg ≤ nI 40)) : mm_V (zz_K l D aa b0) 2 yX11_canon cX11_canon 8 (some .int) 0 [(0, .ref (o + 0)), (1, .int (nI (n))), (2, .int (how)), (3, .int (bh)), (4, .int (hg))] [] h 0 0 (fun rv h' => h' = h ∧ rv = some (.int (-2))) := by
  have hf := cm_fr.rf (o := o) (h := h)
  have hn6 : n < 6 := by have := hW.1.1; omega
  have hva : vA (61 + 10 * n) := Or.inr ⟨n, hn6, rfl⟩
  have hvok := hW.2.1 n hn6
  have hrk := vok_rk hvok
  have hd0 := hvok.2.2.2.2.1
  have hsz24 : aSz s n ≤ 24 := hvok.1.2
  have hL := rD_len hrk
  obtain ⟨hvs, hvw, hr2, hvst, -⟩ := hI.2.1 n hn6
  have hvs := hvs hn
  refine mm_aload_n dX11_canon_0 rfl 0 rfl ?_
  refine mm_iload_n dX11_canon_1 rfl 1 rfl ?_
  refine cm_callVr (As := [.int (nI (n))]) (rest := []) (d2 := 0) dX11_canon_2 ha (by decide) rfl zz_clX11 zc_X11_55 zs_X11_voiceAt rfl rfl (Nat.le_of_ble_eq_true rfl) (Nat.le_of_ble_eq_true rfl) (by decide) (cM_voiceAt ha hI.1.1 hW.1.1 hn) ?_
  refine mm_astore (L' := [(5, .ref (o + (61 + 10 * n))), (0, .ref (o + 0)), (1, .int (nI (n))), (2, .int (how)), (3, .int (bh)), (4, .int (hg))]) dX11_canon_5 (by decide) rfl ?_
  refine mm_aload dX11_canon_7 0 rfl ?_
  refine mm_ifnull dX11_canon_9 ?_
  refine mm_iload_n dX11_canon_12 rfl 3 rfl ?_
  refine mm_if_lt (tgt := 40) dX11_canon_13 (by decide) (fun c13 => ?_) (fun c13 => ?_)
  · refine mm_bipush (v := (-2)) dX11_canon_40 (by decide) ?_
    exact mm_iret dX11_canon_42 rfl (⟨rfl, rfl⟩)
  · refine mm_iload_n dX11_canon_16 rfl 3 rfl ?_
    refine mm_bipush (v := nI 7) dX11_canon_17 (by decide) ?_
    refine mm_icmp_gt (tgt := 40) dX11_canon_19 (by decide) (fun c19 => ?_) (fun c19 => ?_)
    · refine mm_bipush (v := (-2)) dX11_canon_40 (by decide) ?_
      exact mm_iret dX11_canon_42 rfl (⟨rfl, rfl⟩)
    · refine mm_iload_n dX11_canon_22 rfl 4 rfl ?_
      refine mm_if_lt (tgt := 40) dX11_canon_23 (by decide) (fun c23 => ?_) (fun c23 => ?_)
      · refine mm_bipush (v := (-2)) dX11_canon_40 (by decide) ?_
        exact mm_iret dX11_canon_42 rfl (⟨rfl, rfl⟩)
      · refine mm_iload_n dX11_canon_26 rfl 4 rfl ?_
        refine mm_ldc (v := nI 100000) dX11_canon_27 zk_X11_210 ?_
        refine mm_icmp_gt (tgt := 40) dX11_canon_29 (by decide) (fun c29 => ?_) (fun c29 => ?_)
        · refine mm_bipush (v := (-2)) dX11_canon_40 (by decide) ?_
          exact mm_iret dX11_canon_42 rfl (⟨rfl, rfl⟩)
        · refine mm_iload dX11_canon_32 5 rfl ?_
          refine rm_callSr (As := [.int (hg)]) (rest := []) (d2 := 0) dX11_canon_34 zc_X11_63 rfl rfl (Nat.le_of_ble_eq_true rfl) (Nat.le_of_ble_eq_true rfl) (by decide) (ck_isPitchI (x := hg)) ?_
          refine mn_ifB_ne (tgt := 43) dX11_canon_37 (by decide) (fun c37 => ?_) (fun c37 => ?_)
          · exact False.elim (hb ⟨i32_nlt c13, i32_nlt c19, i32_nlt c23, i32_nlt c29, of_decide_eq_true c37⟩)
          · refine mm_bipush (v := (-2)) dX11_canon_40 (by decide) ?_
            exact mm_iret dX11_canon_42 rfl (⟨rfl, rfl⟩)
set_option maxRecDepth 100000 in
set_option maxHeartbeats 4000000 in
theorem cM_canonR {l : Launch} {D : va_G} {aa : Nat → ClassId} {b0 : Nat} {h : mm_H} {o : Nat} {X : Nat → Nat → Int32} {Y : Nat → Nat → Int64} {rl : Option Nat} {s : aS} {ST : Nat → Bool} {n : Nat} {how bh : Nat} {hg : Int32} (ha : cm_at o X Y rl h) (hW : WF s) (hI : CI s ST X Y rl) (hn : n < aNv s) (hhow : how < 8) (hbh : bh ≤ 100000) (hhg : (-40) ≤ hg ∧ hg ≤ nI 40) (hr0 : pfA (aR s n).length ≠ 0) : mm_V (zz_K l D aa b0) 6 yX11_canon cX11_canon 8 (some .int) 0 [(0, .ref (o + 0)), (1, .int (nI (n))), (2, .int (nI (how))), (3, .int (nI (bh))), (4, .int (hg))] [] h 0 0 (fun rv h' => rv = some (.int (pfA (aR s n).length)) ∧ ∃ (X' : Nat → Nat → Int32) (Y' : Nat → Nat → Int64) (rl' : Option Nat) (ST' : Nat → Bool), cm_at o X' Y' rl' h' ∧ cm_fr o h h' ∧ CI s ST' X' Y' rl') := by
  have hf := cm_fr.rf (o := o) (h := h)
  have hn6 : n < 6 := by have := hW.1.1; omega
  have hva : vA (61 + 10 * n) := Or.inr ⟨n, hn6, rfl⟩
  have hvok := hW.2.1 n hn6
  have hrk := vok_rk hvok
  have hd0 := hvok.2.2.2.2.1
  have hsz24 : aSz s n ≤ 24 := hvok.1.2
  have hL := rD_len hrk
  obtain ⟨hvs, hvw, hr2, hvst, -⟩ := hI.2.1 n hn6
  have hvs := hvs hn
  refine mm_aload_n dX11_canon_0 rfl 0 rfl ?_
  refine mm_iload_n dX11_canon_1 rfl 1 rfl ?_
  refine cm_callVr (As := [.int (nI (n))]) (rest := []) (d2 := 0) dX11_canon_2 ha (by decide) rfl zz_clX11 zc_X11_55 zs_X11_voiceAt rfl rfl (Nat.le_of_ble_eq_true rfl) (Nat.le_of_ble_eq_true rfl) (by decide) (cM_voiceAt ha hI.1.1 hW.1.1 hn) ?_
  refine mm_astore (L' := [(5, .ref (o + (61 + 10 * n))), (0, .ref (o + 0)), (1, .int (nI (n))), (2, .int (nI (how))), (3, .int (nI (bh))), (4, .int (hg))]) dX11_canon_5 (by decide) rfl ?_
  refine mm_aload dX11_canon_7 0 rfl ?_
  refine mm_ifnull dX11_canon_9 ?_
  refine mm_iload_n dX11_canon_12 rfl 3 rfl ?_
  refine mn_if_lt (tgt := 40) dX11_canon_13 (by decide) (by omega) ?_
  refine mm_iload_n dX11_canon_16 rfl 3 rfl ?_
  refine mm_bipush (v := nI 7) dX11_canon_17 (by decide) ?_
  refine mn_icmp_gt (tgt := 40) dX11_canon_19 (by decide) (by omega) (by omega) (fun c19 => ?_) (fun c19 => ?_)
  · omega
  · refine mm_iload_n dX11_canon_22 rfl 4 rfl ?_
    refine mn_if_lt (tgt := 40) dX11_canon_23 (by decide) (by omega) ?_
    refine mm_iload_n dX11_canon_26 rfl 4 rfl ?_
    refine mm_ldc (v := nI 100000) dX11_canon_27 zk_X11_210 ?_
    refine mn_icmp_gt (tgt := 40) dX11_canon_29 (by decide) (by omega) (by omega) (fun c29 => ?_) (fun c29 => ?_)
    · omega
    · refine mm_iload dX11_canon_32 5 rfl ?_
      refine rm_callSr (As := [.int (hg)]) (rest := []) (d2 := 0) dX11_canon_34 zc_X11_63 rfl rfl (Nat.le_of_ble_eq_true rfl) (Nat.le_of_ble_eq_true rfl) (by decide) (ck_isPitchI (x := hg)) ?_
      refine mn_ifB_ne (tgt := 43) dX11_canon_37 (by decide) (fun c37 => ?_) (fun c37 => ?_)
      · refine mm_aload_n dX11_canon_43 rfl 1 rfl ?_
        refine mm_aload dX11_canon_44 0 rfl ?_
        refine mm_aload dX11_canon_46 0 rfl ?_
        refine cm_getI dX11_canon_48 ha zr_X11_121 (vA_lt hva 0 (by decide)) (vA_0 hva) rfl ?_
        refine mn_top (u := .int (nI (aPk s n))) (congrArg Value.int ((hvst.1.1))) ?_
        refine cm_callV (As := [.ref (o + (61 + 10 * n)), .int (nI (aPk s n))]) (rest := []) (d2 := 5) dX11_canon_51 ha (by decide) rfl zz_clX11 zc_X11_154 zs_X11_refusalOf rfl rfl (Nat.le_of_ble_eq_true rfl) (Nat.le_of_ble_eq_true rfl) (by decide) (cM_refusalOf ha hW hI hn) (fun r h1 hq => ?_)
        obtain ⟨rfl, X1, Y1, rl1, ST1, ha, hf', hI1, hST, hmo⟩ := hq
        have hf := hf.tr hf'
        obtain ⟨hvs, hvw, hr2, hvst, -⟩ := hI1.2.1 n hn6
        have hvs := hvs hn
        rw [hST] at hvst
        obtain ⟨hvk, hpv⟩ := hvst.2.2 rfl
        rw [pf_rf hvok.2.2.2.2.2.2]
        refine mm_istore (L' := [(6, .int (pfA (aR s n).length)), (5, .ref (o + (61 + 10 * n))), (0, .ref (o + 0)), (1, .int (nI (n))), (2, .int (nI (how))), (3, .int (nI (bh))), (4, .int (hg))]) dX11_canon_54 (by decide) rfl ?_
        refine mm_iload dX11_canon_56 0 rfl ?_
        refine mm_if_eq (tgt := 64) dX11_canon_58 (by decide) (fun c58 => ?_) (fun c58 => ?_)
        · exact absurd c58 hr0
        · refine mm_iload dX11_canon_61 0 rfl ?_
          exact mm_iret dX11_canon_63 rfl (⟨rfl, X1, Y1, rl1, ST1, ha, hf, hI1⟩)
      · rw [decide_eq_true hhg] at c37; cases c37
set_option maxRecDepth 100000 in
set_option maxHeartbeats 4000000 in
theorem cM_canonF {l : Launch} {D : va_G} {aa : Nat → ClassId} {b0 : Nat} {h : mm_H} {o : Nat} {X : Nat → Nat → Int32} {Y : Nat → Nat → Int64} {rl : Option Nat} {s : aS} {ST : Nat → Bool} {n : Nat} {how bh : Nat} {hg : Int32} {y : gR} (ha : cm_at o X Y rl h) (hW : WF s) (hI : CI s ST X Y rl) (hn : n < aNv s) (hhow : how < 8) (hbh : bh ≤ 100000) (hhg : (-40) ≤ hg ∧ hg ≤ nI 40) (hN : (aR s n).length ≤ 1000) (hL0 : 0 < (aR s n).length) (hy : (aR s n)[aPk s n]? = some y) (h6 : aNf s = 6) : mm_V (zz_K l D aa b0) 6 yX11_canon cX11_canon 8 (some .int) 0 [(0, .ref (o + 0)), (1, .int (nI (n))), (2, .int (nI (how))), (3, .int (nI (bh))), (4, .int (hg))] [] h 0 0 (fun rv h' => rv = some (.int (-3)) ∧ ∃ (X' : Nat → Nat → Int32) (Y' : Nat → Nat → Int64) (rl' : Option Nat) (ST' : Nat → Bool), cm_at o X' Y' rl' h' ∧ cm_fr o h h' ∧ CI s ST' X' Y' rl') := by
  have hf := cm_fr.rf (o := o) (h := h)
  have hn6 : n < 6 := by have := hW.1.1; omega
  have hva : vA (61 + 10 * n) := Or.inr ⟨n, hn6, rfl⟩
  have hvok := hW.2.1 n hn6
  have hrk := vok_rk hvok
  have hd0 := hvok.2.2.2.2.1
  have hsz24 : aSz s n ≤ 24 := hvok.1.2
  have hL := rD_len hrk
  obtain ⟨hvs, hvw, hr2, hvst, -⟩ := hI.2.1 n hn6
  have hvs := hvs hn
  refine mm_aload_n dX11_canon_0 rfl 0 rfl ?_
  refine mm_iload_n dX11_canon_1 rfl 1 rfl ?_
  refine cm_callVr (As := [.int (nI (n))]) (rest := []) (d2 := 0) dX11_canon_2 ha (by decide) rfl zz_clX11 zc_X11_55 zs_X11_voiceAt rfl rfl (Nat.le_of_ble_eq_true rfl) (Nat.le_of_ble_eq_true rfl) (by decide) (cM_voiceAt ha hI.1.1 hW.1.1 hn) ?_
  refine mm_astore (L' := [(5, .ref (o + (61 + 10 * n))), (0, .ref (o + 0)), (1, .int (nI (n))), (2, .int (nI (how))), (3, .int (nI (bh))), (4, .int (hg))]) dX11_canon_5 (by decide) rfl ?_
  refine mm_aload dX11_canon_7 0 rfl ?_
  refine mm_ifnull dX11_canon_9 ?_
  refine mm_iload_n dX11_canon_12 rfl 3 rfl ?_
  refine mn_if_lt (tgt := 40) dX11_canon_13 (by decide) (by omega) ?_
  refine mm_iload_n dX11_canon_16 rfl 3 rfl ?_
  refine mm_bipush (v := nI 7) dX11_canon_17 (by decide) ?_
  refine mn_icmp_gt (tgt := 40) dX11_canon_19 (by decide) (by omega) (by omega) (fun c19 => ?_) (fun c19 => ?_)
  · omega
  · refine mm_iload_n dX11_canon_22 rfl 4 rfl ?_
    refine mn_if_lt (tgt := 40) dX11_canon_23 (by decide) (by omega) ?_
    refine mm_iload_n dX11_canon_26 rfl 4 rfl ?_
    refine mm_ldc (v := nI 100000) dX11_canon_27 zk_X11_210 ?_
    refine mn_icmp_gt (tgt := 40) dX11_canon_29 (by decide) (by omega) (by omega) (fun c29 => ?_) (fun c29 => ?_)
    · omega
    · refine mm_iload dX11_canon_32 5 rfl ?_
      refine rm_callSr (As := [.int (hg)]) (rest := []) (d2 := 0) dX11_canon_34 zc_X11_63 rfl rfl (Nat.le_of_ble_eq_true rfl) (Nat.le_of_ble_eq_true rfl) (by decide) (ck_isPitchI (x := hg)) ?_
      refine mn_ifB_ne (tgt := 43) dX11_canon_37 (by decide) (fun c37 => ?_) (fun c37 => ?_)
      · refine mm_aload_n dX11_canon_43 rfl 1 rfl ?_
        refine mm_aload dX11_canon_44 0 rfl ?_
        refine mm_aload dX11_canon_46 0 rfl ?_
        refine cm_getI dX11_canon_48 ha zr_X11_121 (vA_lt hva 0 (by decide)) (vA_0 hva) rfl ?_
        refine mn_top (u := .int (nI (aPk s n))) (congrArg Value.int ((hvst.1.1))) ?_
        refine cm_callV (As := [.ref (o + (61 + 10 * n)), .int (nI (aPk s n))]) (rest := []) (d2 := 5) dX11_canon_51 ha (by decide) rfl zz_clX11 zc_X11_154 zs_X11_refusalOf rfl rfl (Nat.le_of_ble_eq_true rfl) (Nat.le_of_ble_eq_true rfl) (by decide) (cM_refusalOf ha hW hI hn) (fun r h1 hq => ?_)
        obtain ⟨rfl, X1, Y1, rl1, ST1, ha, hf', hI1, hST, hmo⟩ := hq
        have hf := hf.tr hf'
        obtain ⟨hvs, hvw, hr2, hvst, -⟩ := hI1.2.1 n hn6
        have hvs := hvs hn
        rw [hST] at hvst
        obtain ⟨hvk, hpv⟩ := hvst.2.2 rfl
        rw [pf_rf hvok.2.2.2.2.2.2]
        rw [pfA_1 hN hL0]
        refine mm_istore (L' := [(6, .int (nI (0))), (5, .ref (o + (61 + 10 * n))), (0, .ref (o + 0)), (1, .int (nI (n))), (2, .int (nI (how))), (3, .int (nI (bh))), (4, .int (hg))]) dX11_canon_54 (by decide) rfl ?_
        refine mm_iload dX11_canon_56 0 rfl ?_
        refine mn_if_eq (tgt := 64) dX11_canon_58 (by decide) (by omega) (fun c58 => ?_) (fun c58 => ?_)
        · refine mm_aload_n dX11_canon_64 rfl 2 rfl ?_
          refine cm_getI dX11_canon_65 ha zr_X11_211 (by decide) rfl rfl ?_
          refine mn_top (u := .int (nI (aNf s))) (congrArg Value.int ((hI1.1.2))) ?_
          refine mn_if_lt (tgt := 83) dX11_canon_68 (by decide) (by omega) ?_
          refine mm_aload_n dX11_canon_71 rfl 2 rfl ?_
          refine cm_getI dX11_canon_72 ha zr_X11_211 (by decide) rfl rfl ?_
          refine mn_top (u := .int (nI (aNf s))) (congrArg Value.int ((hI1.1.2))) ?_
          refine mm_aload_n dX11_canon_75 rfl 2 rfl ?_
          refine cm_getR (b := 2) dX11_canon_76 ha zr_X11_17 (by decide) rfl rfl rfl ?_
          refine cm_alenF dX11_canon_79 ha ?_
          refine mn_icmp_lt (tgt := 87) dX11_canon_80 (by decide) (by omega) (by omega) (fun c80 => ?_) (fun c80 => ?_)
          · omega
          · refine mm_null dX11_canon_83 ?_
            refine mm_goto (tgt := 96) dX11_canon_84 (by decide) ?_
            refine mm_astoreN (L' := [(7, .null), (6, .int (nI (0))), (5, .ref (o + (61 + 10 * n))), (0, .ref (o + 0)), (1, .int (nI (n))), (2, .int (nI (how))), (3, .int (nI (bh))), (4, .int (hg))]) dX11_canon_96 (by decide) rfl ?_
            refine mm_aloadN dX11_canon_98 0 rfl ?_
            refine mm_ifnonnullN dX11_canon_100 ?_
            refine mm_bipush (v := (-3)) dX11_canon_103 (by decide) ?_
            exact mm_iret dX11_canon_105 rfl (⟨rfl, X1, Y1, rl1, ST1, ha, hf, hI1⟩)
        · exact absurd rfl c58
      · rw [decide_eq_true hhg] at c37; cases c37
set_option maxRecDepth 100000 in
set_option maxHeartbeats 4000000 in
theorem cM_canon {l : Launch} {D : va_G} {aa : Nat → ClassId} {b0 : Nat} {h : mm_H} {o : Nat} {X : Nat → Nat → Int32} {Y : Nat → Nat → Int64} {rl : Option Nat} {s : aS} {ST : Nat → Bool} {n : Nat} {how bh : Nat} {hg : Int32} {y : gR} (ha : cm_at o X Y rl h) (hW : WF s) (hI : CI s ST X Y rl) (hn : n < aNv s) (hhow : how < 8) (hbh : bh ≤ 100000) (hhg : (-40) ≤ hg ∧ hg ≤ nI 40) (hN : (aR s n).length ≤ 1000) (hL0 : 0 < (aR s n).length) (hy : (aR s n)[aPk s n]? = some y) (h6 : aNf s < 6) : mm_V (zz_K l D aa b0) 6 yX11_canon cX11_canon 8 (some .int) 0 [(0, .ref (o + 0)), (1, .int (nI (n))), (2, .int (nI (how))), (3, .int (nI (bh))), (4, .int (hg))] [] h 0 0 (fun rv h' => rv = some (.int (nI (aNf s))) ∧ ∃ (X' : Nat → Nat → Int32) (Y' : Nat → Nat → Int64) (rl' : Option Nat) (ST' : Nat → Bool), cm_at o X' Y' rl' h' ∧ cm_fr o h h' ∧ CI (aCanon s (aFw s n y how bh hg.toInt)) ST' X' Y' rl') := by
  have hf := cm_fr.rf (o := o) (h := h)
  have hn6 : n < 6 := by have := hW.1.1; omega
  have hva : vA (61 + 10 * n) := Or.inr ⟨n, hn6, rfl⟩
  have hvok := hW.2.1 n hn6
  have hrk := vok_rk hvok
  have hd0 := hvok.2.2.2.2.1
  have hsz24 : aSz s n ≤ 24 := hvok.1.2
  have hL := rD_len hrk
  obtain ⟨hvs, hvw, hr2, hvst, -⟩ := hI.2.1 n hn6
  have hvs := hvs hn
  refine mm_aload_n dX11_canon_0 rfl 0 rfl ?_
  refine mm_iload_n dX11_canon_1 rfl 1 rfl ?_
  refine cm_callVr (As := [.int (nI (n))]) (rest := []) (d2 := 0) dX11_canon_2 ha (by decide) rfl zz_clX11 zc_X11_55 zs_X11_voiceAt rfl rfl (Nat.le_of_ble_eq_true rfl) (Nat.le_of_ble_eq_true rfl) (by decide) (cM_voiceAt ha hI.1.1 hW.1.1 hn) ?_
  refine mm_astore (L' := [(5, .ref (o + (61 + 10 * n))), (0, .ref (o + 0)), (1, .int (nI (n))), (2, .int (nI (how))), (3, .int (nI (bh))), (4, .int (hg))]) dX11_canon_5 (by decide) rfl ?_
  refine mm_aload dX11_canon_7 0 rfl ?_
  refine mm_ifnull dX11_canon_9 ?_
  refine mm_iload_n dX11_canon_12 rfl 3 rfl ?_
  refine mn_if_lt (tgt := 40) dX11_canon_13 (by decide) (by omega) ?_
  refine mm_iload_n dX11_canon_16 rfl 3 rfl ?_
  refine mm_bipush (v := nI 7) dX11_canon_17 (by decide) ?_
  refine mn_icmp_gt (tgt := 40) dX11_canon_19 (by decide) (by omega) (by omega) (fun c19 => ?_) (fun c19 => ?_)
  · omega
  · refine mm_iload_n dX11_canon_22 rfl 4 rfl ?_
    refine mn_if_lt (tgt := 40) dX11_canon_23 (by decide) (by omega) ?_
    refine mm_iload_n dX11_canon_26 rfl 4 rfl ?_
    refine mm_ldc (v := nI 100000) dX11_canon_27 zk_X11_210 ?_
    refine mn_icmp_gt (tgt := 40) dX11_canon_29 (by decide) (by omega) (by omega) (fun c29 => ?_) (fun c29 => ?_)
    · omega
    · refine mm_iload dX11_canon_32 5 rfl ?_
      refine rm_callSr (As := [.int (hg)]) (rest := []) (d2 := 0) dX11_canon_34 zc_X11_63 rfl rfl (Nat.le_of_ble_eq_true rfl) (Nat.le_of_ble_eq_true rfl) (by decide) (ck_isPitchI (x := hg)) ?_
      refine mn_ifB_ne (tgt := 43) dX11_canon_37 (by decide) (fun c37 => ?_) (fun c37 => ?_)
      · refine mm_aload_n dX11_canon_43 rfl 1 rfl ?_
        refine mm_aload dX11_canon_44 0 rfl ?_
        refine mm_aload dX11_canon_46 0 rfl ?_
        refine cm_getI dX11_canon_48 ha zr_X11_121 (vA_lt hva 0 (by decide)) (vA_0 hva) rfl ?_
        refine mn_top (u := .int (nI (aPk s n))) (congrArg Value.int ((hvst.1.1))) ?_
        refine cm_callV (As := [.ref (o + (61 + 10 * n)), .int (nI (aPk s n))]) (rest := []) (d2 := 5) dX11_canon_51 ha (by decide) rfl zz_clX11 zc_X11_154 zs_X11_refusalOf rfl rfl (Nat.le_of_ble_eq_true rfl) (Nat.le_of_ble_eq_true rfl) (by decide) (cM_refusalOf ha hW hI hn) (fun r h1 hq => ?_)
        obtain ⟨rfl, X1, Y1, rl1, ST1, ha, hf', hI1, hST, hmo⟩ := hq
        have hf := hf.tr hf'
        obtain ⟨hvs, hvw, hr2, hvst, -⟩ := hI1.2.1 n hn6
        have hvs := hvs hn
        rw [hST] at hvst
        obtain ⟨hvk, hpv⟩ := hvst.2.2 rfl
        rw [pf_rf hvok.2.2.2.2.2.2]
        rw [pfA_1 hN hL0]
        refine mm_istore (L' := [(6, .int (nI (0))), (5, .ref (o + (61 + 10 * n))), (0, .ref (o + 0)), (1, .int (nI (n))), (2, .int (nI (how))), (3, .int (nI (bh))), (4, .int (hg))]) dX11_canon_54 (by decide) rfl ?_
        refine mm_iload dX11_canon_56 0 rfl ?_
        refine mn_if_eq (tgt := 64) dX11_canon_58 (by decide) (by omega) (fun c58 => ?_) (fun c58 => ?_)
        · have hfb : fA (121 + 8 * aNf s) := ⟨_, h6, rfl⟩
          have hfl0 : flw_ X1 Y1 (121 + 8 * aNf s) [] := by have := hI1.2.2.1 (aNf s) h6; rw [(hW.2.2.1 (aNf s) h6).2 (Nat.le_refl _)] at this; exact this
          have hgI := i32_pi hhg
          refine mm_aload_n dX11_canon_64 rfl 2 rfl ?_
          refine cm_getI dX11_canon_65 ha zr_X11_211 (by decide) rfl rfl ?_
          refine mn_top (u := .int (nI (aNf s))) (congrArg Value.int ((hI1.1.2))) ?_
          refine mn_if_lt (tgt := 83) dX11_canon_68 (by decide) (by omega) ?_
          refine mm_aload_n dX11_canon_71 rfl 2 rfl ?_
          refine cm_getI dX11_canon_72 ha zr_X11_211 (by decide) rfl rfl ?_
          refine mn_top (u := .int (nI (aNf s))) (congrArg Value.int ((hI1.1.2))) ?_
          refine mm_aload_n dX11_canon_75 rfl 2 rfl ?_
          refine cm_getR (b := 2) dX11_canon_76 ha zr_X11_17 (by decide) rfl rfl rfl ?_
          refine cm_alenF dX11_canon_79 ha ?_
          refine mn_icmp_lt (tgt := 87) dX11_canon_80 (by decide) (by omega) (by omega) (fun c80 => ?_) (fun c80 => ?_)
          · refine mm_aload_n dX11_canon_87 rfl 2 rfl ?_
            refine cm_getR (b := 2) dX11_canon_88 ha zr_X11_17 (by decide) rfl rfl rfl ?_
            refine mm_aload_n dX11_canon_91 rfl 2 rfl ?_
            refine cm_getI dX11_canon_92 ha zr_X11_211 (by decide) rfl rfl ?_
            refine mn_top (u := .int (nI (aNf s))) (congrArg Value.int ((hI1.1.2))) ?_
            refine cm_aaldF (i := aNf s) dX11_canon_95 ha (by omega) ?_
            refine mm_astore (L' := [(7, .ref (o + (121 + 8 * aNf s))), (6, .int (nI (0))), (5, .ref (o + (61 + 10 * n))), (0, .ref (o + 0)), (1, .int (nI (n))), (2, .int (nI (how))), (3, .int (nI (bh))), (4, .int (hg))]) dX11_canon_96 (by decide) rfl ?_
            refine mm_aload dX11_canon_98 0 rfl ?_
            refine mm_ifnonnull (tgt := 106) dX11_canon_100 (by decide) ?_
            refine mm_aload dX11_canon_106 0 rfl ?_
            refine mm_aload dX11_canon_108 2 rfl ?_
            refine mm_iload_n dX11_canon_110 rfl 5 rfl ?_
            refine mm_iload_n dX11_canon_111 rfl 6 rfl ?_
            refine mm_iload dX11_canon_112 7 rfl ?_
            have hsrt : ∀ i, i < aSz s n → X1 (61 + 10 * n + 4) i = nI (aSo s (24 * n + i)) ∧ aSo s (24 * n + i) ≤ 3 ∧ (aSo s (24 * n + i) = 1 → X1 (61 + 10 * n + 6) i = Int32.ofInt (aPi s (24 * n + i))) := fun i hi => by
              have h1 := hvw.2 i hi
              have h2 := hr2.2 i hi
              rw [show (aW s n).2.1 i = aSo s (24 * n + i) from if_pos hi] at h1 h2
              exact ⟨h1.1, h1.2.1.2, fun z => by rw [h2.1, if_pos z]⟩
            have hhe : (.int hg : Value) = .int (Int32.ofInt hg.toInt) := congrArg Value.int hgI.1
            refine mn_top (u := .int (Int32.ofInt hg.toInt)) hhe ?_
            refine cm_callV (As := [.ref (o + (61 + 10 * n)), .int (nI (how)), .int (nI (bh)), .int (Int32.ofInt hg.toInt)]) (rest := []) (d2 := 3) dX11_canon_114 ha (fA_lt hfb 0 (by decide)) (fA_0 hfb) zz_clX2 zc_X11_214 zs_X2_follow rfl rfl (Nat.le_of_ble_eq_true rfl) (Nat.le_of_ble_eq_true rfl) (by decide) (cw_follow (b := 121 + 8 * aNf s) (v := 61 + 10 * n) (n := aSz s n) (hg := hg.toInt) (so := fun i => aSo s (24 * n + i)) (pi := fun i => aPi s (24 * n + i)) (V := aV y) (ua := fun i => aUa s (24 * n + i)) (da := fun i => aDa s (24 * n + i)) ha hfb hva hfl0.1 hvw.1.1 hsz24 hhow hbh hsrt (hpv hN y hy) (fun i hi => (hr2.2 i hi).2.1) (fun i hi => (hr2.2 i hi).2.2) (a_sz hW hn6 hy) (a_u1 hW hn6)) (fun r h1 hq => ?_)
            obtain ⟨rfl, X2, Y2, ha, hf', hx2, hy2, hfl⟩ := hq
            have hf := hf.tr hf'
            refine mm_aload_n dX11_canon_117 rfl 3 rfl ?_
            refine mm_dup dX11_canon_118 rfl ?_
            refine cm_getI dX11_canon_119 ha zr_X11_211 (by decide) rfl rfl ?_
            refine mn_top (u := .int (nI (aNf s))) (congrArg Value.int (((hx2 _ _ (by omega) (by omega)).trans hI1.1.2))) ?_
            refine mm_iconst (v := nI 1) dX11_canon_122 (by decide) ?_
            refine mn_iadd dX11_canon_123 ?_
            refine cm_putI dX11_canon_124 ha hf zp_X11_211 (by decide) rfl rfl rfl rfl (fun h1 ha hf => ?_)
            refine mm_aload_n dX11_canon_127 rfl 3 rfl ?_
            refine cm_getI dX11_canon_128 ha zr_X11_211 (by decide) rfl rfl ?_
            refine mn_top (u := .int (nI ((aNf s) + (1)))) (congrArg Value.int (xu_s)) ?_
            refine mm_iconst (v := nI 1) dX11_canon_131 (by decide) ?_
            refine mn_isub dX11_canon_132 (by omega) ?_
            refine mn_top (u := .int (nI (aNf s))) (congrArg Value.int (by rw [Nat.add_sub_cancel])) ?_
            exact mm_iret dX11_canon_133 rfl (⟨rfl, _, Y2, rl1, ST1, ha, hf, CI_canon (l := aFw s n y how bh hg.toInt) hI1 h6 xu_s (flw_x hfl (fun b i z => xu_a (by omega)) (fun _ _ _ _ => rfl)) (fun b i n1 n2 n3 => (xu_z n1).trans (hx2 b i n2 n3)) hy2⟩)
          · omega
        · exact absurd rfl c58
      · rw [decide_eq_true hhg] at c37; cases c37
def feA (e : fE) (k : Nat) : Int64 := if k = 0 then (Int32.ofInt e.1).toInt64 else if k = 1 then lN e.2.1.1 else if k = 2 then lN e.2.1.2 else if k = 3 then lN e.2.2.1 else lN e.2.2.2
set_option maxRecDepth 100000 in
set_option maxHeartbeats 4000000 in
theorem cw_tell {l : Launch} {D : va_G} {aa : Nat → ClassId} {b0 : Nat} {h : mm_H} {o : Nat} {X : Nat → Nat → Int32} {Y : Nat → Nat → Int64} {rl : Option Nat} {b i k : Nat} {ls : List fE} {e : fE} (ha : cm_at o X Y rl h) (hfb : fA b) (hfl : flw_ X Y b ls) (hl24 : ls.length ≤ 24) (he : ls[i]? = some e) (hk5 : k < 5) : mm_V (zz_K l D aa b0) 0 yX2_tell cX2_tell 3 (some .long) 0 [(0, .ref (o + b)), (1, .int (nI (i))), (2, .int (nI (k)))] [] h 0 0 (fun rv h' => h' = h ∧ rv = some (.long (feA e k))) := by
  obtain ⟨g1, g2, g3, g4, g5⟩ := hfl.2 i e he
  have hil := get_lt he
  have hw : k = 0 ∨ k = 1 ∨ k = 2 ∨ k = 3 ∨ k = 4 := by omega
  rcases hw with rfl | rfl | rfl | rfl | rfl
  · refine mm_iload_n dX2_tell_0 rfl 1 rfl ?_
    refine mn_if_lt (tgt := 18) dX2_tell_1 (by decide) (by omega) ?_
    refine mm_iload_n dX2_tell_4 rfl 1 rfl ?_
    refine mm_aload_n dX2_tell_5 rfl 0 rfl ?_
    refine cm_getI dX2_tell_6 ha zr_X2_78 (fA_lt hfb 0 (by decide)) (fA_0 hfb) rfl ?_
    refine mn_top (u := .int (nI (ls.length))) (congrArg Value.int ((hfl.1))) ?_
    refine mn_icmp_ge (tgt := 18) dX2_tell_9 (by decide) (by omega) (by omega) (fun c9 => ?_) (fun c9 => ?_)
    · omega
    · refine mm_iload_n dX2_tell_12 rfl 1 rfl ?_
      refine mm_bipush (v := nI 24) dX2_tell_13 (by decide) ?_
      refine mn_icmp_lt (tgt := 22) dX2_tell_15 (by decide) (by omega) (by omega) (fun c15 => ?_) (fun c15 => ?_)
      · refine mm_iload_n dX2_tell_22 rfl 2 rfl ?_
        refine mm_tableIn (off := 33) (tgt := 56) dX2_tell_23 (by decide) (by decide) (by decide) (by decide) ?_
        refine mm_aload_n dX2_tell_56 rfl 0 rfl ?_
        refine cm_getR (b := b + 1) dX2_tell_57 ha zr_X2_9 (fA_lt hfb 0 (by decide)) (fA_0 hfb) rfl rfl ?_
        refine mm_iload_n dX2_tell_60 rfl 1 rfl ?_
        refine cm_iald (i := i) dX2_tell_61 ha (fA_lt hfb 1 (by decide)) (fA_1 hfb) (by omega) (by decide) ?_
        refine mn_top (u := .int (Int32.ofInt e.1)) (congrArg Value.int (g1)) ?_
        refine mm_i2l dX2_tell_62 ?_
        exact mm_lret dX2_tell_63 rfl (⟨rfl, rfl⟩)
      · omega
  · refine mm_iload_n dX2_tell_0 rfl 1 rfl ?_
    refine mn_if_lt (tgt := 18) dX2_tell_1 (by decide) (by omega) ?_
    refine mm_iload_n dX2_tell_4 rfl 1 rfl ?_
    refine mm_aload_n dX2_tell_5 rfl 0 rfl ?_
    refine cm_getI dX2_tell_6 ha zr_X2_78 (fA_lt hfb 0 (by decide)) (fA_0 hfb) rfl ?_
    refine mn_top (u := .int (nI (ls.length))) (congrArg Value.int ((hfl.1))) ?_
    refine mn_icmp_ge (tgt := 18) dX2_tell_9 (by decide) (by omega) (by omega) (fun c9 => ?_) (fun c9 => ?_)
    · omega
    · refine mm_iload_n dX2_tell_12 rfl 1 rfl ?_
      refine mm_bipush (v := nI 24) dX2_tell_13 (by decide) ?_
      refine mn_icmp_lt (tgt := 22) dX2_tell_15 (by decide) (by omega) (by omega) (fun c15 => ?_) (fun c15 => ?_)
      · refine mm_iload_n dX2_tell_22 rfl 2 rfl ?_
        refine mm_tableIn (off := 41) (tgt := 64) dX2_tell_23 (by decide) (by decide) (by decide) (by decide) ?_
        refine mm_aload_n dX2_tell_64 rfl 0 rfl ?_
        refine cm_getR (b := b + 2) dX2_tell_65 ha zr_X2_15 (fA_lt hfb 0 (by decide)) (fA_0 hfb) rfl rfl ?_
        refine mm_iload_n dX2_tell_68 rfl 1 rfl ?_
        refine cm_lald (i := i) dX2_tell_69 ha (fA_lt hfb 2 (by decide)) (fA_2 hfb) (by omega) (by decide) ?_
        refine mn_top (u := .long (lN (e.2.1.1))) (congrArg Value.long (g2)) ?_
        exact mm_lret dX2_tell_70 rfl (⟨rfl, rfl⟩)
      · omega
  · refine mm_iload_n dX2_tell_0 rfl 1 rfl ?_
    refine mn_if_lt (tgt := 18) dX2_tell_1 (by decide) (by omega) ?_
    refine mm_iload_n dX2_tell_4 rfl 1 rfl ?_
    refine mm_aload_n dX2_tell_5 rfl 0 rfl ?_
    refine cm_getI dX2_tell_6 ha zr_X2_78 (fA_lt hfb 0 (by decide)) (fA_0 hfb) rfl ?_
    refine mn_top (u := .int (nI (ls.length))) (congrArg Value.int ((hfl.1))) ?_
    refine mn_icmp_ge (tgt := 18) dX2_tell_9 (by decide) (by omega) (by omega) (fun c9 => ?_) (fun c9 => ?_)
    · omega
    · refine mm_iload_n dX2_tell_12 rfl 1 rfl ?_
      refine mm_bipush (v := nI 24) dX2_tell_13 (by decide) ?_
      refine mn_icmp_lt (tgt := 22) dX2_tell_15 (by decide) (by omega) (by omega) (fun c15 => ?_) (fun c15 => ?_)
      · refine mm_iload_n dX2_tell_22 rfl 2 rfl ?_
        refine mm_tableIn (off := 48) (tgt := 71) dX2_tell_23 (by decide) (by decide) (by decide) (by decide) ?_
        refine mm_aload_n dX2_tell_71 rfl 0 rfl ?_
        refine cm_getR (b := b + 3) dX2_tell_72 ha zr_X2_19 (fA_lt hfb 0 (by decide)) (fA_0 hfb) rfl rfl ?_
        refine mm_iload_n dX2_tell_75 rfl 1 rfl ?_
        refine cm_lald (i := i) dX2_tell_76 ha (fA_lt hfb 3 (by decide)) (fA_3 hfb) (by omega) (by decide) ?_
        refine mn_top (u := .long (lN (e.2.1.2))) (congrArg Value.long (g3)) ?_
        exact mm_lret dX2_tell_77 rfl (⟨rfl, rfl⟩)
      · omega
  · refine mm_iload_n dX2_tell_0 rfl 1 rfl ?_
    refine mn_if_lt (tgt := 18) dX2_tell_1 (by decide) (by omega) ?_
    refine mm_iload_n dX2_tell_4 rfl 1 rfl ?_
    refine mm_aload_n dX2_tell_5 rfl 0 rfl ?_
    refine cm_getI dX2_tell_6 ha zr_X2_78 (fA_lt hfb 0 (by decide)) (fA_0 hfb) rfl ?_
    refine mn_top (u := .int (nI (ls.length))) (congrArg Value.int ((hfl.1))) ?_
    refine mn_icmp_ge (tgt := 18) dX2_tell_9 (by decide) (by omega) (by omega) (fun c9 => ?_) (fun c9 => ?_)
    · omega
    · refine mm_iload_n dX2_tell_12 rfl 1 rfl ?_
      refine mm_bipush (v := nI 24) dX2_tell_13 (by decide) ?_
      refine mn_icmp_lt (tgt := 22) dX2_tell_15 (by decide) (by omega) (by omega) (fun c15 => ?_) (fun c15 => ?_)
      · refine mm_iload_n dX2_tell_22 rfl 2 rfl ?_
        refine mm_tableIn (off := 55) (tgt := 78) dX2_tell_23 (by decide) (by decide) (by decide) (by decide) ?_
        refine mm_aload_n dX2_tell_78 rfl 0 rfl ?_
        refine cm_getR (b := b + 4) dX2_tell_79 ha zr_X2_22 (fA_lt hfb 0 (by decide)) (fA_0 hfb) rfl rfl ?_
        refine mm_iload_n dX2_tell_82 rfl 1 rfl ?_
        refine cm_lald (i := i) dX2_tell_83 ha (fA_lt hfb 4 (by decide)) (fA_4 hfb) (by omega) (by decide) ?_
        refine mn_top (u := .long (lN (e.2.2.1))) (congrArg Value.long (g4)) ?_
        exact mm_lret dX2_tell_84 rfl (⟨rfl, rfl⟩)
      · omega
  · refine mm_iload_n dX2_tell_0 rfl 1 rfl ?_
    refine mn_if_lt (tgt := 18) dX2_tell_1 (by decide) (by omega) ?_
    refine mm_iload_n dX2_tell_4 rfl 1 rfl ?_
    refine mm_aload_n dX2_tell_5 rfl 0 rfl ?_
    refine cm_getI dX2_tell_6 ha zr_X2_78 (fA_lt hfb 0 (by decide)) (fA_0 hfb) rfl ?_
    refine mn_top (u := .int (nI (ls.length))) (congrArg Value.int ((hfl.1))) ?_
    refine mn_icmp_ge (tgt := 18) dX2_tell_9 (by decide) (by omega) (by omega) (fun c9 => ?_) (fun c9 => ?_)
    · omega
    · refine mm_iload_n dX2_tell_12 rfl 1 rfl ?_
      refine mm_bipush (v := nI 24) dX2_tell_13 (by decide) ?_
      refine mn_icmp_lt (tgt := 22) dX2_tell_15 (by decide) (by omega) (by omega) (fun c15 => ?_) (fun c15 => ?_)
      · refine mm_iload_n dX2_tell_22 rfl 2 rfl ?_
        refine mm_tableIn (off := 62) (tgt := 85) dX2_tell_23 (by decide) (by decide) (by decide) (by decide) ?_
        refine mm_aload_n dX2_tell_85 rfl 0 rfl ?_
        refine cm_getR (b := b + 5) dX2_tell_86 ha zr_X2_25 (fA_lt hfb 0 (by decide)) (fA_0 hfb) rfl rfl ?_
        refine mm_iload_n dX2_tell_89 rfl 1 rfl ?_
        refine cm_lald (i := i) dX2_tell_90 ha (fA_lt hfb 5 (by decide)) (fA_5 hfb) (by omega) (by decide) ?_
        refine mn_top (u := .long (lN (e.2.2.2))) (congrArg Value.long (g5)) ?_
        exact mm_lret dX2_tell_91 rfl (⟨rfl, rfl⟩)
      · omega
theorem i32_le4 {x : Int32} (h : x ≤ nI 4) : ¬ nI 5 ≤ x := fun q => by
  have h1 := Int32.le_iff_toInt_le.mp h
  have h2 := Int32.le_iff_toInt_le.mp q
  have e1 : (nI 4).toInt = 4 := by decide
  have e2 : (nI 5).toInt = 5 := by decide
  omega
set_option maxRecDepth 100000 in
set_option maxHeartbeats 4000000 in
theorem cM_followerB {l : Launch} {D : va_G} {aa : Nat → ClassId} {b0 : Nat} {h : mm_H} {o : Nat} {X : Nat → Nat → Int32} {Y : Nat → Nat → Int64} {rl : Option Nat} {s : aS} {ST : Nat → Bool} {f i w : Int32} (ha : cm_at o X Y rl h) (hW : WF s) (hI : CI s ST X Y rl) (hb : (f < 0 ∨ nI (aNf s) ≤ f) ∨ (w < 0 ∨ nI 5 ≤ w)) : mm_V (zz_K l D aa b0) 2 yX11_follower cX11_follower 5 (some .long) 0 [(0, .ref (o + 0)), (1, .int (f)), (2, .int (i)), (3, .int (w))] [] h 0 0 (fun rv h' => h' = h ∧ rv = some (.long (-2))) := by
  have hf := cm_fr.rf (o := o) (h := h)
  refine mm_iload_n dX11_follower_0 rfl 1 rfl ?_
  refine mm_if_lt (tgt := 30) dX11_follower_1 (by decide) (fun c1 => ?_) (fun c1 => ?_)
  · refine mm_ldc2 (v := (-2)) dX11_follower_30 zkLong_X11_181 ?_
    exact mm_lret dX11_follower_33 rfl (⟨rfl, rfl⟩)
  · refine mm_iload_n dX11_follower_4 rfl 1 rfl ?_
    refine mm_aload_n dX11_follower_5 rfl 0 rfl ?_
    refine cm_getI dX11_follower_6 ha zr_X11_211 (by decide) rfl rfl ?_
    refine mn_top (u := .int (nI (aNf s))) (congrArg Value.int ((hI.1.2))) ?_
    refine mm_icmp_ge (tgt := 30) dX11_follower_9 (by decide) (fun c9 => ?_) (fun c9 => ?_)
    · refine mm_ldc2 (v := (-2)) dX11_follower_30 zkLong_X11_181 ?_
      exact mm_lret dX11_follower_33 rfl (⟨rfl, rfl⟩)
    · refine mm_iload_n dX11_follower_12 rfl 1 rfl ?_
      refine mm_aload_n dX11_follower_13 rfl 0 rfl ?_
      refine cm_getR (b := 2) dX11_follower_14 ha zr_X11_17 (by decide) rfl rfl rfl ?_
      refine cm_alenF dX11_follower_17 ha ?_
      refine mm_icmp_ge (tgt := 30) dX11_follower_18 (by decide) (fun c18 => ?_) (fun c18 => ?_)
      · refine mm_ldc2 (v := (-2)) dX11_follower_30 zkLong_X11_181 ?_
        exact mm_lret dX11_follower_33 rfl (⟨rfl, rfl⟩)
      · refine mm_iload_n dX11_follower_21 rfl 3 rfl ?_
        refine mm_if_lt (tgt := 30) dX11_follower_22 (by decide) (fun c22 => ?_) (fun c22 => ?_)
        · refine mm_ldc2 (v := (-2)) dX11_follower_30 zkLong_X11_181 ?_
          exact mm_lret dX11_follower_33 rfl (⟨rfl, rfl⟩)
        · refine mm_iload_n dX11_follower_25 rfl 3 rfl ?_
          refine mm_iconst (v := nI 4) dX11_follower_26 (by decide) ?_
          refine mm_icmp_le (tgt := 34) dX11_follower_27 (by decide) (fun c27 => ?_) (fun c27 => ?_)
          · exact hb.elim (fun z => z.elim (fun q => absurd q c1) (fun q => absurd q c9)) (fun z => z.elim (fun q => absurd q c22) (fun q => absurd q (i32_le4 c27)))
          · refine mm_ldc2 (v := (-2)) dX11_follower_30 zkLong_X11_181 ?_
            exact mm_lret dX11_follower_33 rfl (⟨rfl, rfl⟩)
set_option maxRecDepth 100000 in
set_option maxHeartbeats 4000000 in
theorem cM_follower {l : Launch} {D : va_G} {aa : Nat → ClassId} {b0 : Nat} {h : mm_H} {o : Nat} {X : Nat → Nat → Int32} {Y : Nat → Nat → Int64} {rl : Option Nat} {s : aS} {ST : Nat → Bool} {f i w : Nat} {e : fE} (ha : cm_at o X Y rl h) (hW : WF s) (hI : CI s ST X Y rl) (hfn : f < aNf s) (hw : w < 5) (he : (aFl s f)[i]? = some e) : mm_V (zz_K l D aa b0) 2 yX11_follower cX11_follower 5 (some .long) 0 [(0, .ref (o + 0)), (1, .int (nI (f))), (2, .int (nI (i))), (3, .int (nI (w)))] [] h 0 0 (fun rv h' => h' = h ∧ rv = some (.long (feA e w))) := by
  have hf := cm_fr.rf (o := o) (h := h)
  have hnf6 := hW.1.2.1
  have hf6 : f < 6 := by omega
  have hfb : fA (121 + 8 * f) := ⟨f, hf6, rfl⟩
  have hfl := hI.2.2.1 f hf6
  have hl24 := (hW.2.2.1 f hf6).1
  refine mm_iload_n dX11_follower_0 rfl 1 rfl ?_
  refine mn_if_lt (tgt := 30) dX11_follower_1 (by decide) (by omega) ?_
  refine mm_iload_n dX11_follower_4 rfl 1 rfl ?_
  refine mm_aload_n dX11_follower_5 rfl 0 rfl ?_
  refine cm_getI dX11_follower_6 ha zr_X11_211 (by decide) rfl rfl ?_
  refine mn_top (u := .int (nI (aNf s))) (congrArg Value.int ((hI.1.2))) ?_
  refine mn_icmp_ge (tgt := 30) dX11_follower_9 (by decide) (by omega) (by omega) (fun c9 => ?_) (fun c9 => ?_)
  · omega
  · refine mm_iload_n dX11_follower_12 rfl 1 rfl ?_
    refine mm_aload_n dX11_follower_13 rfl 0 rfl ?_
    refine cm_getR (b := 2) dX11_follower_14 ha zr_X11_17 (by decide) rfl rfl rfl ?_
    refine cm_alenF dX11_follower_17 ha ?_
    refine mn_icmp_ge (tgt := 30) dX11_follower_18 (by decide) (by omega) (by omega) (fun c18 => ?_) (fun c18 => ?_)
    · omega
    · refine mm_iload_n dX11_follower_21 rfl 3 rfl ?_
      refine mn_if_lt (tgt := 30) dX11_follower_22 (by decide) (by omega) ?_
      refine mm_iload_n dX11_follower_25 rfl 3 rfl ?_
      refine mm_iconst (v := nI 4) dX11_follower_26 (by decide) ?_
      refine mn_icmp_le (tgt := 34) dX11_follower_27 (by decide) (by omega) (by omega) (fun c27 => ?_) (fun c27 => ?_)
      · refine mm_aload_n dX11_follower_34 rfl 0 rfl ?_
        refine cm_getR (b := 2) dX11_follower_35 ha zr_X11_17 (by decide) rfl rfl rfl ?_
        refine mm_iload_n dX11_follower_38 rfl 1 rfl ?_
        refine cm_aaldF (i := f) dX11_follower_39 ha (by omega) ?_
        refine mm_astore (L' := [(4, .ref (o + (121 + 8 * f))), (0, .ref (o + 0)), (1, .int (nI (f))), (2, .int (nI (i))), (3, .int (nI (w)))]) dX11_follower_40 (by decide) rfl ?_
        refine mm_aload dX11_follower_42 0 rfl ?_
        refine mm_ifnonnull (tgt := 53) dX11_follower_44 (by decide) ?_
        refine mm_aload dX11_follower_53 0 rfl ?_
        refine mm_iload_n dX11_follower_55 rfl 3 rfl ?_
        refine mm_iload_n dX11_follower_56 rfl 4 rfl ?_
        refine cm_callVr (As := [.int (nI (i)), .int (nI (w))]) (rest := []) (d2 := 0) dX11_follower_57 ha (fA_lt hfb 0 (by decide)) (fA_0 hfb) zz_clX2 zc_X11_218 zs_X2_tell rfl rfl (Nat.le_of_ble_eq_true rfl) (Nat.le_of_ble_eq_true rfl) (by decide) (cw_tell ha hfb hfl hl24 he hw) ?_
        exact mm_lret dX11_follower_60 rfl (⟨rfl, rfl⟩)
      · omega
set_option maxRecDepth 100000 in
set_option maxHeartbeats 4000000 in
theorem cM_followerI {l : Launch} {D : va_G} {aa : Nat → ClassId} {b0 : Nat} {h : mm_H} {o : Nat} {X : Nat → Nat → Int32} {Y : Nat → Nat → Int64} {rl : Option Nat} {s : aS} {ST : Nat → Bool} {f w : Nat} {i : Int32} (ha : cm_at o X Y rl h) (hW : WF s) (hI : CI s ST X Y rl) (hfn : f < aNf s) (hw : w < 5) (hi : i < 0 ∨ nI (aFl s f).length ≤ i) : mm_V (zz_K l D aa b0) 2 yX11_follower cX11_follower 5 (some .long) 0 [(0, .ref (o + 0)), (1, .int (nI (f))), (2, .int (i)), (3, .int (nI (w)))] [] h 0 0 (fun rv h' => h' = h ∧ rv = some (.long (-1))) := by
  have hf := cm_fr.rf (o := o) (h := h)
  have hnf6 := hW.1.2.1
  have hf6 : f < 6 := by omega
  have hfb : fA (121 + 8 * f) := ⟨f, hf6, rfl⟩
  have hfl := hI.2.2.1 f hf6
  have hl24 := (hW.2.2.1 f hf6).1
  refine mm_iload_n dX11_follower_0 rfl 1 rfl ?_
  refine mn_if_lt (tgt := 30) dX11_follower_1 (by decide) (by omega) ?_
  refine mm_iload_n dX11_follower_4 rfl 1 rfl ?_
  refine mm_aload_n dX11_follower_5 rfl 0 rfl ?_
  refine cm_getI dX11_follower_6 ha zr_X11_211 (by decide) rfl rfl ?_
  refine mn_top (u := .int (nI (aNf s))) (congrArg Value.int ((hI.1.2))) ?_
  refine mn_icmp_ge (tgt := 30) dX11_follower_9 (by decide) (by omega) (by omega) (fun c9 => ?_) (fun c9 => ?_)
  · omega
  · refine mm_iload_n dX11_follower_12 rfl 1 rfl ?_
    refine mm_aload_n dX11_follower_13 rfl 0 rfl ?_
    refine cm_getR (b := 2) dX11_follower_14 ha zr_X11_17 (by decide) rfl rfl rfl ?_
    refine cm_alenF dX11_follower_17 ha ?_
    refine mn_icmp_ge (tgt := 30) dX11_follower_18 (by decide) (by omega) (by omega) (fun c18 => ?_) (fun c18 => ?_)
    · omega
    · refine mm_iload_n dX11_follower_21 rfl 3 rfl ?_
      refine mn_if_lt (tgt := 30) dX11_follower_22 (by decide) (by omega) ?_
      refine mm_iload_n dX11_follower_25 rfl 3 rfl ?_
      refine mm_iconst (v := nI 4) dX11_follower_26 (by decide) ?_
      refine mn_icmp_le (tgt := 34) dX11_follower_27 (by decide) (by omega) (by omega) (fun c27 => ?_) (fun c27 => ?_)
      · refine mm_aload_n dX11_follower_34 rfl 0 rfl ?_
        refine cm_getR (b := 2) dX11_follower_35 ha zr_X11_17 (by decide) rfl rfl rfl ?_
        refine mm_iload_n dX11_follower_38 rfl 1 rfl ?_
        refine cm_aaldF (i := f) dX11_follower_39 ha (by omega) ?_
        refine mm_astore (L' := [(4, .ref (o + (121 + 8 * f))), (0, .ref (o + 0)), (1, .int (nI (f))), (2, .int (i)), (3, .int (nI (w)))]) dX11_follower_40 (by decide) rfl ?_
        refine mm_aload dX11_follower_42 0 rfl ?_
        refine mm_ifnonnull (tgt := 53) dX11_follower_44 (by decide) ?_
        refine mm_aload dX11_follower_53 0 rfl ?_
        refine mm_iload_n dX11_follower_55 rfl 3 rfl ?_
        refine mm_iload_n dX11_follower_56 rfl 4 rfl ?_
        refine cm_callVr (As := [.int (i), .int (nI (w))]) (rest := []) (d2 := 0) dX11_follower_57 ha (fA_lt hfb 0 (by decide)) (fA_0 hfb) zz_clX2 zc_X11_218 zs_X2_tell rfl rfl (Nat.le_of_ble_eq_true rfl) (Nat.le_of_ble_eq_true rfl) (by decide) (cw_tellN ha hfb hfl.1 hi) ?_
        exact mm_lret dX11_follower_60 rfl (⟨rfl, rfl⟩)
      · omega
set_option maxRecDepth 100000 in
set_option maxHeartbeats 4000000 in
theorem cM_written {l : Launch} {D : va_G} {aa : Nat → ClassId} {b0 : Nat} {h : mm_H} {o : Nat} {X : Nat → Nat → Int32} {Y : Nat → Nat → Int64} {rl : Option Nat} {s : aS} {ST : Nat → Bool} {i : Nat} (ha : cm_at o X Y rl h) (hW : WF s) (hI : CI s ST X Y rl) (hi : i < aNw s) : mm_V (zz_K l D aa b0) 2 yX11_written cX11_written 2 (some .int) 0 [(0, .ref (o + 0)), (1, .int (nI (i)))] [] h 0 0 (fun rv h' => h' = h ∧ rv = some (.int (nI (aWk s i)))) := by
  have hf := cm_fr.rf (o := o) (h := h)
  refine mm_aload_n dX11_written_0 rfl 0 rfl ?_
  refine cm_getR (b := 35) dX11_written_1 ha zr_X11_31 (by decide) rfl rfl rfl ?_
  refine mm_iload_n dX11_written_4 rfl 1 rfl ?_
  refine cm_callVr (As := [.int (nI (i))]) (rest := []) (d2 := 0) dX11_written_5 ha (by decide) rfl zz_clX10 zc_X11_239 zs_X10_keptAt rfl rfl (Nat.le_of_ble_eq_true rfl) (Nat.le_of_ble_eq_true rfl) (by decide) (cw_keptAt ha hI.2.2.2.1.1 hW.1.2.2 hi) ?_
  refine mn_top (u := .int (nI (aWk s i))) (congrArg Value.int (hI.2.2.2.1.2 i (by have := hW.1.2.2; omega))) ?_
  exact mm_iret dX11_written_8 rfl (⟨rfl, rfl⟩)
set_option maxRecDepth 100000 in
set_option maxHeartbeats 4000000 in
theorem cM_writtenN {l : Launch} {D : va_G} {aa : Nat → ClassId} {b0 : Nat} {h : mm_H} {o : Nat} {X : Nat → Nat → Int32} {Y : Nat → Nat → Int64} {rl : Option Nat} {s : aS} {ST : Nat → Bool} {i : Int32} (ha : cm_at o X Y rl h) (hW : WF s) (hI : CI s ST X Y rl) (hi : i < 0 ∨ nI (aNw s) ≤ i) : mm_V (zz_K l D aa b0) 2 yX11_written cX11_written 2 (some .int) 0 [(0, .ref (o + 0)), (1, .int (i))] [] h 0 0 (fun rv h' => h' = h ∧ rv = some (.int (-1))) := by
  have hf := cm_fr.rf (o := o) (h := h)
  refine mm_aload_n dX11_written_0 rfl 0 rfl ?_
  refine cm_getR (b := 35) dX11_written_1 ha zr_X11_31 (by decide) rfl rfl rfl ?_
  refine mm_iload_n dX11_written_4 rfl 1 rfl ?_
  refine cm_callVr (As := [.int (i)]) (rest := []) (d2 := 0) dX11_written_5 ha (by decide) rfl zz_clX10 zc_X11_239 zs_X10_keptAt rfl rfl (Nat.le_of_ble_eq_true rfl) (Nat.le_of_ble_eq_true rfl) (by decide) (cw_keptAtN ha hI.2.2.2.1.1 hi) ?_
  exact mm_iret dX11_written_8 rfl (⟨rfl, rfl⟩)
