/-! the class: symbols -/
set_option maxRecDepth 100000 in
set_option maxHeartbeats 4000000 in
theorem cM_pick {l : Launch} {D : va_G} {aa : Nat → ClassId} {b0 : Nat} {h : mm_H} {o : Nat} {X : Nat → Nat → Int32} {Y : Nat → Nat → Int64} {rl : Option Nat} {s : aS} {ST : Nat → Bool} {n k : Nat} {y : gR} (ha : cm_at o X Y rl h) (hW : WF s) (hI : CI s ST X Y rl) (hn : n < aNv s) (hN : (aR s n).length ≤ 1000) (hk : k < (aR s n).length) (hy : (aR s n)[k]? = some y) : mm_V (zz_K l D aa b0) 6 yX11_pick cX11_pick 6 (some .int) 0 [(0, .ref (o + 0)), (1, .int (nI (n))), (2, .int (nI (k)))] [] h 0 0 (fun rv h' => rv = some (.int (nI (aPk s n))) ∧ ∃ (X' : Nat → Nat → Int32) (Y' : Nat → Nat → Int64) (rl' : Option Nat) (ST' : Nat → Bool), cm_at o X' Y' rl' h' ∧ cm_fr o h h' ∧ CI (aPick s n k) ST' X' Y' rl') := by
  have hf := cm_fr.rf (o := o) (h := h)
  have hn6 : n < 6 := by have := hW.1.1; omega
  have hva : vA (61 + 10 * n) := Or.inr ⟨n, hn6, rfl⟩
  have hvok := hW.2.1 n hn6
  have hrk := vok_rk hvok
  have hd0 := hvok.2.2.2.2.1
  have hsz24 : aSz s n ≤ 24 := hvok.1.2
  have hL := rD_len hrk
  obtain ⟨hvs, hvw, hr2, hvst, -⟩ := hI.2.1 n hn6
  have hvs := hvs hn
  refine mm_aload_n dX11_pick_0 rfl 0 rfl ?_
  refine mm_iload_n dX11_pick_1 rfl 1 rfl ?_
  refine cm_callVr (As := [.int (nI (n))]) (rest := []) (d2 := 0) dX11_pick_2 ha (by decide) rfl zz_clX11 zc_X11_55 zs_X11_voiceAt rfl rfl (Nat.le_of_ble_eq_true rfl) (Nat.le_of_ble_eq_true rfl) (by decide) (cM_voiceAt ha hI.1.1 hW.1.1 hn) ?_
  refine mm_astore_n (L' := [(3, .ref (o + (61 + 10 * n))), (0, .ref (o + 0)), (1, .int (nI (n))), (2, .int (nI (k)))]) dX11_pick_5 rfl (by decide) rfl ?_
  refine mm_aload_n dX11_pick_6 rfl 1 rfl ?_
  refine mm_aload_n dX11_pick_7 rfl 0 rfl ?_
  refine mm_iload_n dX11_pick_8 rfl 3 rfl ?_
  refine cm_callV (As := [.ref (o + (61 + 10 * n)), .int (nI (k))]) (rest := []) (d2 := 5) dX11_pick_9 ha (by decide) rfl zz_clX11 zc_X11_154 zs_X11_refusalOf rfl rfl (Nat.le_of_ble_eq_true rfl) (Nat.le_of_ble_eq_true rfl) (by decide) (cM_refusalOf ha hW hI hn) (fun r h1 hq => ?_)
  obtain ⟨rfl, X1, Y1, rl1, ST1, ha, hf', hI1, hST, hmo⟩ := hq
  have hf := hf.tr hf'
  obtain ⟨hvs, hvw, hr2, hvst, -⟩ := hI1.2.1 n hn6
  have hvs := hvs hn
  rw [hST] at hvst
  obtain ⟨hvk, hpv⟩ := hvst.2.2 rfl
  have hLe : (aR s n).length = (rD (aW s n) (aSg s n)).length := rfl
  have hrA : rfA (aR s n).length (nI k) = 0 := rfA_0 hN hk
  rw [hrA]
  refine mm_istore (L' := [(4, .int (nI (0))), (3, .ref (o + (61 + 10 * n))), (0, .ref (o + 0)), (1, .int (nI (n))), (2, .int (nI (k)))]) dX11_pick_12 (by decide) rfl ?_
  refine mm_aload_n dX11_pick_14 rfl 1 rfl ?_
  refine mm_ifnull dX11_pick_15 ?_
  refine mm_iload dX11_pick_18 0 rfl ?_
  refine mn_if_eq (tgt := 26) dX11_pick_20 (by decide) (by omega) (fun c20 => ?_) (fun c20 => ?_)
  · have hyl := (rD_ok hrk hy).2
    have hyl : y.2.length = aSz s n := hyl
    refine mm_aload_n dX11_pick_26 rfl 2 rfl ?_
    refine cm_getR (b := 3) dX11_pick_27 ha zr_X11_24 (by decide) rfl rfl rfl ?_
    refine mm_aload_n dX11_pick_30 rfl 1 rfl ?_
    refine mm_iload_n dX11_pick_31 rfl 4 rfl ?_
    obtain ⟨x, hx, hxy⟩ := rD_sS (show (rD (aW s n) (aSg s n))[k]? = some y from hy)
    refine cm_callV (As := [.ref (o + (61 + 10 * n)), .int (nI (k))]) (rest := []) (d2 := 5) dX11_pick_32 ha (by decide) rfl zz_clX5 zc_X11_158 zs_X5_makeAgain rfl rfl (Nat.le_of_ble_eq_true rfl) (Nat.le_of_ble_eq_true rfl) (by decide) (cR_makeAgain (w := aW s n) (sg := aSg s n) ha hva hvw hvs hvk hrk hd0 (by rw [← hL, ← hLe]; exact hN) (by rw [← hL, ← hLe]; exact hk) hx (fun z => hI1.2.2.2.2.2 n hn6 z hST hN)) (fun r h1 hq => ?_)
    obtain ⟨rfl, X2, Y2, ha, hf', hrd, hY, hvk2, hkn2, hdr⟩ := hq
    have hf := hf.tr hf'
    rw [hxy] at hdr
    have hI2 := CI_mk hW hI1 hn hST hrd hY hvk2 hkn2
    have hvst2 := (hI2.2.1 n hn6).2.2.2.1
    refine mm_aload_n dX11_pick_35 rfl 1 rfl ?_
    refine cm_getI dX11_pick_36 ha zr_X11_121 (vA_lt hva 0 (by decide)) (vA_0 hva) rfl ?_
    refine mn_top (u := .int (nI (aPk s n))) (congrArg Value.int ((hvst2.1.1))) ?_
    refine mm_istore (L' := [(5, .int (nI (aPk s n))), (4, .int (nI (0))), (3, .ref (o + (61 + 10 * n))), (0, .ref (o + 0)), (1, .int (nI (n))), (2, .int (nI (k)))]) dX11_pick_39 (by decide) rfl ?_
    refine mm_aload_n dX11_pick_41 rfl 2 rfl ?_
    refine mm_iload_n dX11_pick_42 rfl 5 rfl ?_
    refine mm_aload_n dX11_pick_43 rfl 3 rfl ?_
    refine cm_getR (b := 3) dX11_pick_44 ha zr_X11_24 (by decide) rfl rfl rfl ?_
    refine cm_getR (b := 25) dX11_pick_47 ha zr_X11_162 (by decide) rfl rfl rfl ?_
    refine cm_callV (As := [.int (nI (k)), .ref (o + 25)]) (rest := []) (d2 := 1) dX11_pick_50 ha (vA_lt hva 0 (by decide)) (vA_0 hva) zz_clX9 zc_X11_177 zs_X9_holdPicked rfl rfl (Nat.le_of_ble_eq_true rfl) (Nat.le_of_ble_eq_true rfl) (by decide) (cv_holdPicked (a := 61 + 10 * n) ha hva) (fun r h1 hq => ?_)
    obtain ⟨rfl, ha, hf'⟩ := hq
    have hf := hf.tr hf'
    refine mm_iload dX11_pick_53 0 rfl ?_
    have hI3 := CI_pick (r := k) hW hI2 hn hST hy ((fcp_a (by omega)).trans xu_s) (fun i hi => (fcp_i (by omega)).trans ((xu_a (by omega)).trans (hdr.2.2 i (by omega)))) (fun b i n1 n2 => (fcp_a n2).trans (xu_z n1)) (X' := fcp (xu X2 (61 + 10 * n) 7 (nI k)) (61 + 10 * n + 2) 27 24)
    exact mm_iret dX11_pick_55 rfl (⟨rfl, _, Y2, _, ST1, ha, hf, hI3⟩)
  · exact absurd rfl c20
set_option maxRecDepth 100000 in
set_option maxHeartbeats 4000000 in
theorem ck_isPitchI {l : Launch} {D : va_G} {aa : Nat → ClassId} {b0 : Nat} {h : mm_H} {x : Int32}  : mm_V (zz_K l D aa b0) 0 yX11_isPitch cX11_isPitch 1 (some .boolean) 0 [(0, .int (x))] [] h 0 0 (fun rv h' => h' = h ∧ rv = some (.int (nI (Bool.toNat (decide ((-40) ≤ x ∧ x ≤ nI 40)))))) := by
  refine mm_iload_n dX11_isPitch_0 rfl 0 rfl ?_
  refine mm_bipush (v := (-40)) dX11_isPitch_1 (by decide) ?_
  refine mm_icmp_lt (tgt := 16) dX11_isPitch_3 (by decide) (fun c3 => ?_) (fun c3 => ?_)
  · refine mm_iconst (v := nI 0) dX11_isPitch_16 (by decide) ?_
    exact mm_zret dX11_isPitch_17 rfl (by decide) (⟨rfl, by first | (rw [decide_eq_true ⟨Int32.not_lt.mp c3, Int32.not_lt.mp c9⟩]; rfl) | (rw [decide_eq_false (fun z => absurd c3 (Int32.not_lt.mpr z.1))]; rfl) | (rw [decide_eq_false (fun z => absurd c9 (Int32.not_lt.mpr z.2))]; rfl)⟩)
  · refine mm_iload_n dX11_isPitch_6 rfl 0 rfl ?_
    refine mm_bipush (v := nI 40) dX11_isPitch_7 (by decide) ?_
    refine mm_icmp_gt (tgt := 16) dX11_isPitch_9 (by decide) (fun c9 => ?_) (fun c9 => ?_)
    · refine mm_iconst (v := nI 0) dX11_isPitch_16 (by decide) ?_
      exact mm_zret dX11_isPitch_17 rfl (by decide) (⟨rfl, by first | (rw [decide_eq_true ⟨Int32.not_lt.mp c3, Int32.not_lt.mp c9⟩]; rfl) | (rw [decide_eq_false (fun z => absurd c3 (Int32.not_lt.mpr z.1))]; rfl) | (rw [decide_eq_false (fun z => absurd c9 (Int32.not_lt.mpr z.2))]; rfl)⟩)
    · refine mm_iconst (v := nI 1) dX11_isPitch_12 (by decide) ?_
      refine mm_goto (tgt := 17) dX11_isPitch_13 (by decide) ?_
      exact mm_zret dX11_isPitch_17 rfl (by decide) (⟨rfl, by first | (rw [decide_eq_true ⟨Int32.not_lt.mp c3, Int32.not_lt.mp c9⟩]; rfl) | (rw [decide_eq_false (fun z => absurd c3 (Int32.not_lt.mpr z.1))]; rfl) | (rw [decide_eq_false (fun z => absurd c9 (Int32.not_lt.mpr z.2))]; rfl)⟩)
def toldA (s : aS) (n w : Nat) : Nat := if w = 0 then aSz s n else if w = 1 then aSg s n else if w = 2 then gd_ (aSg s n) else if w = 3 then aUp s n else if w = 4 then aDn s n else if w = 5 then aPk s n else fl_ (aSg s n) (gd_ (aSg s n))
theorem i32_out {x : Int32} {n : Nat} (hn : n < 2 ^ 31) (h : x < 0 ∨ nI n ≤ x) : x.toInt < 0 ∨ (n : Int) ≤ x.toInt := by
  rcases h with h | h
  · left
    rw [Int32.lt_iff_toInt_lt] at h
    have : (0 : Int32).toInt = 0 := by decide
    omega
  · right
    rw [Int32.le_iff_toInt_le, nI_toInt hn] at h
    exact h
set_option maxRecDepth 100000 in
set_option maxHeartbeats 4000000 in
theorem cM_told {l : Launch} {D : va_G} {aa : Nat → ClassId} {b0 : Nat} {h : mm_H} {o : Nat} {X : Nat → Nat → Int32} {Y : Nat → Nat → Int64} {rl : Option Nat} {s : aS} {ST : Nat → Bool} {n : Nat} {w : Nat} (ha : cm_at o X Y rl h) (hW : WF s) (hI : CI s ST X Y rl) (hn : n < aNv s) (hw7 : w < 7) : mm_V (zz_K l D aa b0) 2 yX11_told cX11_told 4 (some .int) 0 [(0, .ref (o + 0)), (1, .int (nI (n))), (2, .int (nI (w)))] [] h 0 0 (fun rv h' => h' = h ∧ rv = some (.int (nI (toldA s n w)))) := by
  have hf := cm_fr.rf (o := o) (h := h)
  have hn6 : n < 6 := by have := hW.1.1; omega
  have hva : vA (61 + 10 * n) := Or.inr ⟨n, hn6, rfl⟩
  have hvok := hW.2.1 n hn6
  have hrk := vok_rk hvok
  have hd0 := hvok.2.2.2.2.1
  have hsz24 : aSz s n ≤ 24 := hvok.1.2
  have hL := rD_len hrk
  obtain ⟨hvs, hvw, hr2, hvst, -⟩ := hI.2.1 n hn6
  have hvs := hvs hn
  have hup := hr2.1.1
  have hdn := hr2.1.2
  rw [if_pos hn] at hup hdn
  have hw : w = 0 ∨ w = 1 ∨ w = 2 ∨ w = 3 ∨ w = 4 ∨ w = 5 ∨ w = 6 := by omega
  rcases hw with rfl | rfl | rfl | rfl | rfl | rfl | rfl
  · refine mm_aload_n dX11_told_0 rfl 0 rfl ?_
    refine mm_iload_n dX11_told_1 rfl 1 rfl ?_
    refine cm_callVr (As := [.int (nI (n))]) (rest := []) (d2 := 0) dX11_told_2 ha (by decide) rfl zz_clX11 zc_X11_55 zs_X11_voiceAt rfl rfl (Nat.le_of_ble_eq_true rfl) (Nat.le_of_ble_eq_true rfl) (by decide) (cM_voiceAt ha hI.1.1 hW.1.1 hn) ?_
    refine mm_astore_n (L' := [(3, .ref (o + (61 + 10 * n))), (0, .ref (o + 0)), (1, .int (nI (n))), (2, .int (nI (0)))]) dX11_told_5 rfl (by decide) rfl ?_
    refine mm_aload_n dX11_told_6 rfl 0 rfl ?_
    refine mm_ifnonnull (tgt := 13) dX11_told_7 (by decide) ?_
    refine mm_iload_n dX11_told_13 rfl 3 rfl ?_
    refine mm_tableIn (off := 42) (tgt := 56) dX11_told_14 (by decide) (by decide) (by decide) (by decide) ?_
    refine mm_aload_n dX11_told_56 rfl 0 rfl ?_
    refine cm_getR (b := 61 + 10 * n + 3) dX11_told_57 ha zr_X11_70 (vA_lt hva 0 (by decide)) (vA_0 hva) rfl rfl ?_
    refine cm_getI dX11_told_60 ha zr_X11_74 (vA_lt hva 3 (by decide)) (vA_3 hva) rfl ?_
    refine mn_top (u := .int (nI (aSz s n))) (congrArg Value.int ((hvw.1.1))) ?_
    exact mm_iret dX11_told_63 rfl (⟨rfl, rfl⟩)
  · refine mm_aload_n dX11_told_0 rfl 0 rfl ?_
    refine mm_iload_n dX11_told_1 rfl 1 rfl ?_
    refine cm_callVr (As := [.int (nI (n))]) (rest := []) (d2 := 0) dX11_told_2 ha (by decide) rfl zz_clX11 zc_X11_55 zs_X11_voiceAt rfl rfl (Nat.le_of_ble_eq_true rfl) (Nat.le_of_ble_eq_true rfl) (by decide) (cM_voiceAt ha hI.1.1 hW.1.1 hn) ?_
    refine mm_astore_n (L' := [(3, .ref (o + (61 + 10 * n))), (0, .ref (o + 0)), (1, .int (nI (n))), (2, .int (nI (1)))]) dX11_told_5 rfl (by decide) rfl ?_
    refine mm_aload_n dX11_told_6 rfl 0 rfl ?_
    refine mm_ifnonnull (tgt := 13) dX11_told_7 (by decide) ?_
    refine mm_iload_n dX11_told_13 rfl 3 rfl ?_
    refine mm_tableIn (off := 50) (tgt := 64) dX11_told_14 (by decide) (by decide) (by decide) (by decide) ?_
    refine mm_aload_n dX11_told_64 rfl 0 rfl ?_
    refine cm_getI dX11_told_65 ha zr_X11_109 (vA_lt hva 0 (by decide)) (vA_0 hva) rfl ?_
    refine mn_top (u := .int (nI (aSg s n))) (congrArg Value.int ((hvs.1))) ?_
    exact mm_iret dX11_told_68 rfl (⟨rfl, rfl⟩)
  · refine mm_aload_n dX11_told_0 rfl 0 rfl ?_
    refine mm_iload_n dX11_told_1 rfl 1 rfl ?_
    refine cm_callVr (As := [.int (nI (n))]) (rest := []) (d2 := 0) dX11_told_2 ha (by decide) rfl zz_clX11 zc_X11_55 zs_X11_voiceAt rfl rfl (Nat.le_of_ble_eq_true rfl) (Nat.le_of_ble_eq_true rfl) (by decide) (cM_voiceAt ha hI.1.1 hW.1.1 hn) ?_
    refine mm_astore_n (L' := [(3, .ref (o + (61 + 10 * n))), (0, .ref (o + 0)), (1, .int (nI (n))), (2, .int (nI (2)))]) dX11_told_5 rfl (by decide) rfl ?_
    refine mm_aload_n dX11_told_6 rfl 0 rfl ?_
    refine mm_ifnonnull (tgt := 13) dX11_told_7 (by decide) ?_
    refine mm_iload_n dX11_told_13 rfl 3 rfl ?_
    refine mm_tableIn (off := 55) (tgt := 69) dX11_told_14 (by decide) (by decide) (by decide) (by decide) ?_
    refine mm_aload_n dX11_told_69 rfl 0 rfl ?_
    refine cm_getI dX11_told_70 ha zr_X11_112 (vA_lt hva 0 (by decide)) (vA_0 hva) rfl ?_
    refine mn_top (u := .int (nI (gd_ (aSg s n)))) (congrArg Value.int ((hvs.2.2.1))) ?_
    exact mm_iret dX11_told_73 rfl (⟨rfl, rfl⟩)
  · refine mm_aload_n dX11_told_0 rfl 0 rfl ?_
    refine mm_iload_n dX11_told_1 rfl 1 rfl ?_
    refine cm_callVr (As := [.int (nI (n))]) (rest := []) (d2 := 0) dX11_told_2 ha (by decide) rfl zz_clX11 zc_X11_55 zs_X11_voiceAt rfl rfl (Nat.le_of_ble_eq_true rfl) (Nat.le_of_ble_eq_true rfl) (by decide) (cM_voiceAt ha hI.1.1 hW.1.1 hn) ?_
    refine mm_astore_n (L' := [(3, .ref (o + (61 + 10 * n))), (0, .ref (o + 0)), (1, .int (nI (n))), (2, .int (nI (3)))]) dX11_told_5 rfl (by decide) rfl ?_
    refine mm_aload_n dX11_told_6 rfl 0 rfl ?_
    refine mm_ifnonnull (tgt := 13) dX11_told_7 (by decide) ?_
    refine mm_iload_n dX11_told_13 rfl 3 rfl ?_
    refine mm_tableIn (off := 60) (tgt := 74) dX11_told_14 (by decide) (by decide) (by decide) (by decide) ?_
    refine mm_aload_n dX11_told_74 rfl 0 rfl ?_
    refine cm_getR (b := 61 + 10 * n + 3) dX11_told_75 ha zr_X11_70 (vA_lt hva 0 (by decide)) (vA_0 hva) rfl rfl ?_
    refine cm_getI dX11_told_78 ha zr_X11_115 (vA_lt hva 3 (by decide)) (vA_3 hva) rfl ?_
    refine mn_top (u := .int (nI (aUp s n))) (congrArg Value.int ((hup))) ?_
    exact mm_iret dX11_told_81 rfl (⟨rfl, rfl⟩)
  · refine mm_aload_n dX11_told_0 rfl 0 rfl ?_
    refine mm_iload_n dX11_told_1 rfl 1 rfl ?_
    refine cm_callVr (As := [.int (nI (n))]) (rest := []) (d2 := 0) dX11_told_2 ha (by decide) rfl zz_clX11 zc_X11_55 zs_X11_voiceAt rfl rfl (Nat.le_of_ble_eq_true rfl) (Nat.le_of_ble_eq_true rfl) (by decide) (cM_voiceAt ha hI.1.1 hW.1.1 hn) ?_
    refine mm_astore_n (L' := [(3, .ref (o + (61 + 10 * n))), (0, .ref (o + 0)), (1, .int (nI (n))), (2, .int (nI (4)))]) dX11_told_5 rfl (by decide) rfl ?_
    refine mm_aload_n dX11_told_6 rfl 0 rfl ?_
    refine mm_ifnonnull (tgt := 13) dX11_told_7 (by decide) ?_
    refine mm_iload_n dX11_told_13 rfl 3 rfl ?_
    refine mm_tableIn (off := 68) (tgt := 82) dX11_told_14 (by decide) (by decide) (by decide) (by decide) ?_
    refine mm_aload_n dX11_told_82 rfl 0 rfl ?_
    refine cm_getR (b := 61 + 10 * n + 3) dX11_told_83 ha zr_X11_70 (vA_lt hva 0 (by decide)) (vA_0 hva) rfl rfl ?_
    refine cm_getI dX11_told_86 ha zr_X11_118 (vA_lt hva 3 (by decide)) (vA_3 hva) rfl ?_
    refine mn_top (u := .int (nI (aDn s n))) (congrArg Value.int ((hdn))) ?_
    exact mm_iret dX11_told_89 rfl (⟨rfl, rfl⟩)
  · refine mm_aload_n dX11_told_0 rfl 0 rfl ?_
    refine mm_iload_n dX11_told_1 rfl 1 rfl ?_
    refine cm_callVr (As := [.int (nI (n))]) (rest := []) (d2 := 0) dX11_told_2 ha (by decide) rfl zz_clX11 zc_X11_55 zs_X11_voiceAt rfl rfl (Nat.le_of_ble_eq_true rfl) (Nat.le_of_ble_eq_true rfl) (by decide) (cM_voiceAt ha hI.1.1 hW.1.1 hn) ?_
    refine mm_astore_n (L' := [(3, .ref (o + (61 + 10 * n))), (0, .ref (o + 0)), (1, .int (nI (n))), (2, .int (nI (5)))]) dX11_told_5 rfl (by decide) rfl ?_
    refine mm_aload_n dX11_told_6 rfl 0 rfl ?_
    refine mm_ifnonnull (tgt := 13) dX11_told_7 (by decide) ?_
    refine mm_iload_n dX11_told_13 rfl 3 rfl ?_
    refine mm_tableIn (off := 76) (tgt := 90) dX11_told_14 (by decide) (by decide) (by decide) (by decide) ?_
    refine mm_aload_n dX11_told_90 rfl 0 rfl ?_
    refine cm_getI dX11_told_91 ha zr_X11_121 (vA_lt hva 0 (by decide)) (vA_0 hva) rfl ?_
    refine mn_top (u := .int (nI (aPk s n))) (congrArg Value.int ((hvst.1.1))) ?_
    exact mm_iret dX11_told_94 rfl (⟨rfl, rfl⟩)
  · refine mm_aload_n dX11_told_0 rfl 0 rfl ?_
    refine mm_iload_n dX11_told_1 rfl 1 rfl ?_
    refine cm_callVr (As := [.int (nI (n))]) (rest := []) (d2 := 0) dX11_told_2 ha (by decide) rfl zz_clX11 zc_X11_55 zs_X11_voiceAt rfl rfl (Nat.le_of_ble_eq_true rfl) (Nat.le_of_ble_eq_true rfl) (by decide) (cM_voiceAt ha hI.1.1 hW.1.1 hn) ?_
    refine mm_astore_n (L' := [(3, .ref (o + (61 + 10 * n))), (0, .ref (o + 0)), (1, .int (nI (n))), (2, .int (nI (6)))]) dX11_told_5 rfl (by decide) rfl ?_
    refine mm_aload_n dX11_told_6 rfl 0 rfl ?_
    refine mm_ifnonnull (tgt := 13) dX11_told_7 (by decide) ?_
    refine mm_iload_n dX11_told_13 rfl 3 rfl ?_
    refine mm_tableIn (off := 81) (tgt := 95) dX11_told_14 (by decide) (by decide) (by decide) (by decide) ?_
    refine mm_aload_n dX11_told_95 rfl 0 rfl ?_
    refine mm_aload_n dX11_told_96 rfl 0 rfl ?_
    refine cm_getI dX11_told_97 ha zr_X11_112 (vA_lt hva 0 (by decide)) (vA_0 hva) rfl ?_
    refine mn_top (u := .int (nI (gd_ (aSg s n)))) (congrArg Value.int ((hvs.2.2.1))) ?_
    refine cm_callVr (As := [.int (nI (gd_ (aSg s n)))]) (rest := []) (d2 := 1) dX11_told_100 ha (vA_lt hva 0 (by decide)) (vA_0 hva) zz_clX9 zc_X11_124 zs_X9_fullOf rfl rfl (Nat.le_of_ble_eq_true rfl) (Nat.le_of_ble_eq_true rfl) (by decide) (cv_fullOf ha hva hvs.2.2.2 (by have := (gd_perf _ hvok.1.1).1; omega)) ?_
    refine mn_top (u := .int (nI (fl_ (aSg s n) (gd_ (aSg s n))))) (congrArg Value.int (by rw [if_pos (by have := (gd_perf _ hvok.1.1).1; omega)])) ?_
    exact mm_iret dX11_told_103 rfl (⟨rfl, rfl⟩)
set_option maxRecDepth 100000 in
set_option maxHeartbeats 4000000 in
theorem cM_toldO {l : Launch} {D : va_G} {aa : Nat → ClassId} {b0 : Nat} {h : mm_H} {o : Nat} {X : Nat → Nat → Int32} {Y : Nat → Nat → Int64} {rl : Option Nat} {s : aS} {ST : Nat → Bool} {n : Nat} {w : Int32} (ha : cm_at o X Y rl h) (hW : WF s) (hI : CI s ST X Y rl) (hn : n < aNv s) (hw : w < 0 ∨ nI 7 ≤ w) : mm_V (zz_K l D aa b0) 2 yX11_told cX11_told 4 (some .int) 0 [(0, .ref (o + 0)), (1, .int (nI (n))), (2, .int (w))] [] h 0 0 (fun rv h' => h' = h ∧ rv = some (.int (-2))) := by
  have hf := cm_fr.rf (o := o) (h := h)
  have hn6 : n < 6 := by have := hW.1.1; omega
  have hva : vA (61 + 10 * n) := Or.inr ⟨n, hn6, rfl⟩
  have hvok := hW.2.1 n hn6
  have hrk := vok_rk hvok
  have hd0 := hvok.2.2.2.2.1
  have hsz24 : aSz s n ≤ 24 := hvok.1.2
  have hL := rD_len hrk
  obtain ⟨hvs, hvw, hr2, hvst, -⟩ := hI.2.1 n hn6
  have hvs := hvs hn
  refine mm_aload_n dX11_told_0 rfl 0 rfl ?_
  refine mm_iload_n dX11_told_1 rfl 1 rfl ?_
  refine cm_callVr (As := [.int (nI (n))]) (rest := []) (d2 := 0) dX11_told_2 ha (by decide) rfl zz_clX11 zc_X11_55 zs_X11_voiceAt rfl rfl (Nat.le_of_ble_eq_true rfl) (Nat.le_of_ble_eq_true rfl) (by decide) (cM_voiceAt ha hI.1.1 hW.1.1 hn) ?_
  refine mm_astore_n (L' := [(3, .ref (o + (61 + 10 * n))), (0, .ref (o + 0)), (1, .int (nI (n))), (2, .int (w))]) dX11_told_5 rfl (by decide) rfl ?_
  refine mm_aload_n dX11_told_6 rfl 0 rfl ?_
  refine mm_ifnonnull (tgt := 13) dX11_told_7 (by decide) ?_
  refine mm_iload_n dX11_told_13 rfl 3 rfl ?_
  refine mm_tableOut (tgt := 104) dX11_told_14 ((i32_out (by decide) hw).imp id (fun z => by omega)) (by decide) ?_
  refine mm_bipush (v := (-2)) dX11_told_104 (by decide) ?_
  exact mm_iret dX11_told_106 rfl (⟨rfl, rfl⟩)
def symA (s : aS) (n i w : Nat) : Int32 := if w = 0 then nI (aSo s (24 * n + i)) else if w = 1 then (if aSo s (24 * n + i) = 3 then -1 else nI (aKi s (24 * n + i))) else if w = 2 then (if aSo s (24 * n + i) = 1 then Int32.ofInt (aPi s (24 * n + i)) else -1) else (if aSo s (24 * n + i) = 1 then nI (Bool.toNat (aCo s (24 * n + i))) else -1)
set_option maxRecDepth 100000 in
set_option maxHeartbeats 4000000 in
theorem cM_symbol {l : Launch} {D : va_G} {aa : Nat → ClassId} {b0 : Nat} {h : mm_H} {o : Nat} {X : Nat → Nat → Int32} {Y : Nat → Nat → Int64} {rl : Option Nat} {s : aS} {ST : Nat → Bool} {n : Nat} {i w : Nat} (ha : cm_at o X Y rl h) (hW : WF s) (hI : CI s ST X Y rl) (hn : n < aNv s) (hi : i < aSz s n) (hw7 : w < 4) : mm_V (zz_K l D aa b0) 2 yX11_symbol cX11_symbol 6 (some .int) 0 [(0, .ref (o + 0)), (1, .int (nI (n))), (2, .int (nI (i))), (3, .int (nI (w)))] [] h 0 0 (fun rv h' => h' = h ∧ rv = some (.int (symA s n i w))) := by
  have hf := cm_fr.rf (o := o) (h := h)
  have hn6 : n < 6 := by have := hW.1.1; omega
  have hva : vA (61 + 10 * n) := Or.inr ⟨n, hn6, rfl⟩
  have hvok := hW.2.1 n hn6
  have hrk := vok_rk hvok
  have hd0 := hvok.2.2.2.2.1
  have hsz24 : aSz s n ≤ 24 := hvok.1.2
  have hL := rD_len hrk
  obtain ⟨hvs, hvw, hr2, hvst, -⟩ := hI.2.1 n hn6
  have hvs := hvs hn
  have hwi := hvw.2 i hi
  have hri := hr2.2 i hi
  have e1 : (aW s n).2.1 i = aSo s (24 * n + i) := if_pos hi
  have e2 : (aW s n).2.2.1 i = aKi s (24 * n + i) := if_pos hi
  have e3 : (aW s n).2.2.2 i = aCo s (24 * n + i) := if_pos hi
  rw [e1, e2, e3] at hwi
  rw [e1] at hri
  have hso := hwi.2.1
  have hw : w = 0 ∨ w = 1 ∨ w = 2 ∨ w = 3 := by omega
  rcases hw with rfl | rfl | rfl | rfl
  · refine mm_aload_n dX11_symbol_0 rfl 0 rfl ?_
    refine mm_iload_n dX11_symbol_1 rfl 1 rfl ?_
    refine cm_callVr (As := [.int (nI (n))]) (rest := []) (d2 := 0) dX11_symbol_2 ha (by decide) rfl zz_clX11 zc_X11_55 zs_X11_voiceAt rfl rfl (Nat.le_of_ble_eq_true rfl) (Nat.le_of_ble_eq_true rfl) (by decide) (cM_voiceAt ha hI.1.1 hW.1.1 hn) ?_
    refine mm_astore (L' := [(4, .ref (o + (61 + 10 * n))), (0, .ref (o + 0)), (1, .int (nI (n))), (2, .int (nI (i))), (3, .int (nI (0)))]) dX11_symbol_5 (by decide) rfl ?_
    refine mm_aload dX11_symbol_7 0 rfl ?_
    refine mm_ifnull dX11_symbol_9 ?_
    refine mm_iload_n dX11_symbol_12 rfl 3 rfl ?_
    refine mn_if_lt (tgt := 28) dX11_symbol_13 (by decide) (by omega) ?_
    refine mm_iload_n dX11_symbol_16 rfl 3 rfl ?_
    refine mm_aload dX11_symbol_17 0 rfl ?_
    refine cm_getR (b := 61 + 10 * n + 3) dX11_symbol_19 ha zr_X11_70 (vA_lt hva 0 (by decide)) (vA_0 hva) rfl rfl ?_
    refine cm_getI dX11_symbol_22 ha zr_X11_74 (vA_lt hva 3 (by decide)) (vA_3 hva) rfl ?_
    refine mn_top (u := .int (nI (aSz s n))) (congrArg Value.int ((hvw.1.1))) ?_
    refine mn_icmp_lt (tgt := 31) dX11_symbol_25 (by decide) (by omega) (by omega) (fun c25 => ?_) (fun c25 => ?_)
    · refine mm_aload dX11_symbol_31 0 rfl ?_
      refine cm_getR (b := 61 + 10 * n + 3) dX11_symbol_33 ha zr_X11_70 (vA_lt hva 0 (by decide)) (vA_0 hva) rfl rfl ?_
      refine mm_iload_n dX11_symbol_36 rfl 3 rfl ?_
      refine cm_callVr (As := [.int (nI (i))]) (rest := []) (d2 := 0) dX11_symbol_37 ha (vA_lt hva 3 (by decide)) (vA_3 hva) zz_clX6 zc_X11_79 zs_X6_sortAt rfl rfl (Nat.le_of_ble_eq_true rfl) (Nat.le_of_ble_eq_true rfl) (by decide) (cr_sortAt ha (vr_A hva) hvw.1.1 hsz24 (by omega)) ?_
      refine mn_top (u := .int (nI (aSo s (24 * n + i)))) (congrArg Value.int ((if_pos hi).trans hwi.1)) ?_
      refine mm_istore (L' := [(5, .int (nI (aSo s (24 * n + i)))), (4, .ref (o + (61 + 10 * n))), (0, .ref (o + 0)), (1, .int (nI (n))), (2, .int (nI (i))), (3, .int (nI (0)))]) dX11_symbol_40 (by decide) rfl ?_
      refine mm_iload_n dX11_symbol_42 rfl 5 rfl ?_
      refine mm_tableIn (off := 29) (tgt := 72) dX11_symbol_43 (by decide) (by decide) (by decide) (by decide) ?_
      refine mm_iload dX11_symbol_72 0 rfl ?_
      exact mm_iret dX11_symbol_74 rfl (⟨rfl, rfl⟩)
    · omega
  · refine mm_aload_n dX11_symbol_0 rfl 0 rfl ?_
    refine mm_iload_n dX11_symbol_1 rfl 1 rfl ?_
    refine cm_callVr (As := [.int (nI (n))]) (rest := []) (d2 := 0) dX11_symbol_2 ha (by decide) rfl zz_clX11 zc_X11_55 zs_X11_voiceAt rfl rfl (Nat.le_of_ble_eq_true rfl) (Nat.le_of_ble_eq_true rfl) (by decide) (cM_voiceAt ha hI.1.1 hW.1.1 hn) ?_
    refine mm_astore (L' := [(4, .ref (o + (61 + 10 * n))), (0, .ref (o + 0)), (1, .int (nI (n))), (2, .int (nI (i))), (3, .int (nI (1)))]) dX11_symbol_5 (by decide) rfl ?_
    refine mm_aload dX11_symbol_7 0 rfl ?_
    refine mm_ifnull dX11_symbol_9 ?_
    refine mm_iload_n dX11_symbol_12 rfl 3 rfl ?_
    refine mn_if_lt (tgt := 28) dX11_symbol_13 (by decide) (by omega) ?_
    refine mm_iload_n dX11_symbol_16 rfl 3 rfl ?_
    refine mm_aload dX11_symbol_17 0 rfl ?_
    refine cm_getR (b := 61 + 10 * n + 3) dX11_symbol_19 ha zr_X11_70 (vA_lt hva 0 (by decide)) (vA_0 hva) rfl rfl ?_
    refine cm_getI dX11_symbol_22 ha zr_X11_74 (vA_lt hva 3 (by decide)) (vA_3 hva) rfl ?_
    refine mn_top (u := .int (nI (aSz s n))) (congrArg Value.int ((hvw.1.1))) ?_
    refine mn_icmp_lt (tgt := 31) dX11_symbol_25 (by decide) (by omega) (by omega) (fun c25 => ?_) (fun c25 => ?_)
    · refine mm_aload dX11_symbol_31 0 rfl ?_
      refine cm_getR (b := 61 + 10 * n + 3) dX11_symbol_33 ha zr_X11_70 (vA_lt hva 0 (by decide)) (vA_0 hva) rfl rfl ?_
      refine mm_iload_n dX11_symbol_36 rfl 3 rfl ?_
      refine cm_callVr (As := [.int (nI (i))]) (rest := []) (d2 := 0) dX11_symbol_37 ha (vA_lt hva 3 (by decide)) (vA_3 hva) zz_clX6 zc_X11_79 zs_X6_sortAt rfl rfl (Nat.le_of_ble_eq_true rfl) (Nat.le_of_ble_eq_true rfl) (by decide) (cr_sortAt ha (vr_A hva) hvw.1.1 hsz24 (by omega)) ?_
      refine mn_top (u := .int (nI (aSo s (24 * n + i)))) (congrArg Value.int ((if_pos hi).trans hwi.1)) ?_
      refine mm_istore (L' := [(5, .int (nI (aSo s (24 * n + i)))), (4, .ref (o + (61 + 10 * n))), (0, .ref (o + 0)), (1, .int (nI (n))), (2, .int (nI (i))), (3, .int (nI (1)))]) dX11_symbol_40 (by decide) rfl ?_
      refine mm_iload_n dX11_symbol_42 rfl 5 rfl ?_
      refine mm_tableIn (off := 32) (tgt := 75) dX11_symbol_43 (by decide) (by decide) (by decide) (by decide) ?_
      refine mm_aload dX11_symbol_75 1 rfl ?_
      refine cm_getR (b := 61 + 10 * n + 3) dX11_symbol_77 ha zr_X11_70 (vA_lt hva 0 (by decide)) (vA_0 hva) rfl rfl ?_
      refine mm_iload_n dX11_symbol_80 rfl 4 rfl ?_
      refine cm_callVr (As := [.int (nI (i))]) (rest := []) (d2 := 0) dX11_symbol_81 ha (vA_lt hva 3 (by decide)) (vA_3 hva) zz_clX6 zc_X11_127 zs_X6_kindAt rfl rfl (Nat.le_of_ble_eq_true rfl) (Nat.le_of_ble_eq_true rfl) (by decide) (cr_kindAt ha (vr_A hva) hvw.1.1 hsz24 (by omega)) ?_
      refine mn_top (u := .int (if aSo s (24 * n + i) = 3 then -1 else nI (aKi s (24 * n + i)))) (congrArg Value.int ((if_pos hi).trans hwi.2.2.1)) ?_
      exact mm_iret dX11_symbol_84 rfl (⟨rfl, rfl⟩)
    · omega
  · refine mm_aload_n dX11_symbol_0 rfl 0 rfl ?_
    refine mm_iload_n dX11_symbol_1 rfl 1 rfl ?_
    refine cm_callVr (As := [.int (nI (n))]) (rest := []) (d2 := 0) dX11_symbol_2 ha (by decide) rfl zz_clX11 zc_X11_55 zs_X11_voiceAt rfl rfl (Nat.le_of_ble_eq_true rfl) (Nat.le_of_ble_eq_true rfl) (by decide) (cM_voiceAt ha hI.1.1 hW.1.1 hn) ?_
    refine mm_astore (L' := [(4, .ref (o + (61 + 10 * n))), (0, .ref (o + 0)), (1, .int (nI (n))), (2, .int (nI (i))), (3, .int (nI (2)))]) dX11_symbol_5 (by decide) rfl ?_
    refine mm_aload dX11_symbol_7 0 rfl ?_
    refine mm_ifnull dX11_symbol_9 ?_
    refine mm_iload_n dX11_symbol_12 rfl 3 rfl ?_
    refine mn_if_lt (tgt := 28) dX11_symbol_13 (by decide) (by omega) ?_
    refine mm_iload_n dX11_symbol_16 rfl 3 rfl ?_
    refine mm_aload dX11_symbol_17 0 rfl ?_
    refine cm_getR (b := 61 + 10 * n + 3) dX11_symbol_19 ha zr_X11_70 (vA_lt hva 0 (by decide)) (vA_0 hva) rfl rfl ?_
    refine cm_getI dX11_symbol_22 ha zr_X11_74 (vA_lt hva 3 (by decide)) (vA_3 hva) rfl ?_
    refine mn_top (u := .int (nI (aSz s n))) (congrArg Value.int ((hvw.1.1))) ?_
    refine mn_icmp_lt (tgt := 31) dX11_symbol_25 (by decide) (by omega) (by omega) (fun c25 => ?_) (fun c25 => ?_)
    · refine mm_aload dX11_symbol_31 0 rfl ?_
      refine cm_getR (b := 61 + 10 * n + 3) dX11_symbol_33 ha zr_X11_70 (vA_lt hva 0 (by decide)) (vA_0 hva) rfl rfl ?_
      refine mm_iload_n dX11_symbol_36 rfl 3 rfl ?_
      refine cm_callVr (As := [.int (nI (i))]) (rest := []) (d2 := 0) dX11_symbol_37 ha (vA_lt hva 3 (by decide)) (vA_3 hva) zz_clX6 zc_X11_79 zs_X6_sortAt rfl rfl (Nat.le_of_ble_eq_true rfl) (Nat.le_of_ble_eq_true rfl) (by decide) (cr_sortAt ha (vr_A hva) hvw.1.1 hsz24 (by omega)) ?_
      refine mn_top (u := .int (nI (aSo s (24 * n + i)))) (congrArg Value.int ((if_pos hi).trans hwi.1)) ?_
      refine mm_istore (L' := [(5, .int (nI (aSo s (24 * n + i)))), (4, .ref (o + (61 + 10 * n))), (0, .ref (o + 0)), (1, .int (nI (n))), (2, .int (nI (i))), (3, .int (nI (2)))]) dX11_symbol_40 (by decide) rfl ?_
      refine mm_iload_n dX11_symbol_42 rfl 5 rfl ?_
      refine mm_tableIn (off := 42) (tgt := 85) dX11_symbol_43 (by decide) (by decide) (by decide) (by decide) ?_
      refine mm_aload dX11_symbol_85 1 rfl ?_
      refine cm_getR (b := 61 + 10 * n + 3) dX11_symbol_87 ha zr_X11_70 (vA_lt hva 0 (by decide)) (vA_0 hva) rfl rfl ?_
      refine mm_iload_n dX11_symbol_90 rfl 4 rfl ?_
      refine cm_callVr (As := [.int (nI (i))]) (rest := []) (d2 := 0) dX11_symbol_91 ha (vA_lt hva 3 (by decide)) (vA_3 hva) zz_clX6 zc_X11_130 zs_X6_pitchAt rfl rfl (Nat.le_of_ble_eq_true rfl) (Nat.le_of_ble_eq_true rfl) (by decide) (cr_pitchAt ha (vr_A hva) hvw.1.1 hsz24 (by omega)) ?_
      refine mn_top (u := .int (if aSo s (24 * n + i) = 1 then Int32.ofInt (aPi s (24 * n + i)) else -1)) (congrArg Value.int ((if_pos hi).trans hri.1)) ?_
      exact mm_iret dX11_symbol_94 rfl (⟨rfl, rfl⟩)
    · omega
  · refine mm_aload_n dX11_symbol_0 rfl 0 rfl ?_
    refine mm_iload_n dX11_symbol_1 rfl 1 rfl ?_
    refine cm_callVr (As := [.int (nI (n))]) (rest := []) (d2 := 0) dX11_symbol_2 ha (by decide) rfl zz_clX11 zc_X11_55 zs_X11_voiceAt rfl rfl (Nat.le_of_ble_eq_true rfl) (Nat.le_of_ble_eq_true rfl) (by decide) (cM_voiceAt ha hI.1.1 hW.1.1 hn) ?_
    refine mm_astore (L' := [(4, .ref (o + (61 + 10 * n))), (0, .ref (o + 0)), (1, .int (nI (n))), (2, .int (nI (i))), (3, .int (nI (3)))]) dX11_symbol_5 (by decide) rfl ?_
    refine mm_aload dX11_symbol_7 0 rfl ?_
    refine mm_ifnull dX11_symbol_9 ?_
    refine mm_iload_n dX11_symbol_12 rfl 3 rfl ?_
    refine mn_if_lt (tgt := 28) dX11_symbol_13 (by decide) (by omega) ?_
    refine mm_iload_n dX11_symbol_16 rfl 3 rfl ?_
    refine mm_aload dX11_symbol_17 0 rfl ?_
    refine cm_getR (b := 61 + 10 * n + 3) dX11_symbol_19 ha zr_X11_70 (vA_lt hva 0 (by decide)) (vA_0 hva) rfl rfl ?_
    refine cm_getI dX11_symbol_22 ha zr_X11_74 (vA_lt hva 3 (by decide)) (vA_3 hva) rfl ?_
    refine mn_top (u := .int (nI (aSz s n))) (congrArg Value.int ((hvw.1.1))) ?_
    refine mn_icmp_lt (tgt := 31) dX11_symbol_25 (by decide) (by omega) (by omega) (fun c25 => ?_) (fun c25 => ?_)
    · refine mm_aload dX11_symbol_31 0 rfl ?_
      refine cm_getR (b := 61 + 10 * n + 3) dX11_symbol_33 ha zr_X11_70 (vA_lt hva 0 (by decide)) (vA_0 hva) rfl rfl ?_
      refine mm_iload_n dX11_symbol_36 rfl 3 rfl ?_
      refine cm_callVr (As := [.int (nI (i))]) (rest := []) (d2 := 0) dX11_symbol_37 ha (vA_lt hva 3 (by decide)) (vA_3 hva) zz_clX6 zc_X11_79 zs_X6_sortAt rfl rfl (Nat.le_of_ble_eq_true rfl) (Nat.le_of_ble_eq_true rfl) (by decide) (cr_sortAt ha (vr_A hva) hvw.1.1 hsz24 (by omega)) ?_
      refine mn_top (u := .int (nI (aSo s (24 * n + i)))) (congrArg Value.int ((if_pos hi).trans hwi.1)) ?_
      refine mm_istore (L' := [(5, .int (nI (aSo s (24 * n + i)))), (4, .ref (o + (61 + 10 * n))), (0, .ref (o + 0)), (1, .int (nI (n))), (2, .int (nI (i))), (3, .int (nI (3)))]) dX11_symbol_40 (by decide) rfl ?_
      refine mm_iload_n dX11_symbol_42 rfl 5 rfl ?_
      refine mm_tableIn (off := 52) (tgt := 95) dX11_symbol_43 (by decide) (by decide) (by decide) (by decide) ?_
      refine mm_iload dX11_symbol_95 0 rfl ?_
      refine mm_iconst (v := nI 1) dX11_symbol_97 (by decide) ?_
      refine mn_icmp_eq (tgt := 105) dX11_symbol_98 (by decide) (by omega) (by omega) (fun c98 => ?_) (fun c98 => ?_)
      · refine mm_aload dX11_symbol_105 1 rfl ?_
        refine cm_getR (b := 61 + 10 * n + 3) dX11_symbol_107 ha zr_X11_70 (vA_lt hva 0 (by decide)) (vA_0 hva) rfl rfl ?_
        refine mm_iload_n dX11_symbol_110 rfl 4 rfl ?_
        refine cm_callVr (As := [.int (nI (i))]) (rest := []) (d2 := 0) dX11_symbol_111 ha (vA_lt hva 3 (by decide)) (vA_3 hva) zz_clX6 zc_X11_133 zs_X6_isColouredAt rfl rfl (Nat.le_of_ble_eq_true rfl) (Nat.le_of_ble_eq_true rfl) (by decide) (cr_isColouredAt (co := (aW s n).2.2.2) ha (vr_A hva) hvw.1.1 hsz24 (by omega) (fun j hj => (hvw.2 j hj).2.2.2.2.1)) ?_
        refine mn_top (u := .int (nI (Bool.toNat (aCo s (24 * n + i))))) (congrArg Value.int (by show nI (Bool.toNat (decide (i < aSz s n) && (aW s n).2.2.2 i)) = _; rw [decide_eq_true hi, e3]; rfl)) ?_
        refine mn_ifB_eq (tgt := 121) dX11_symbol_114 (by decide) (fun c114 => ?_) (fun c114 => ?_)
        · refine mm_iconst (v := nI 0) dX11_symbol_121 (by decide) ?_
          exact mm_iret dX11_symbol_122 rfl (⟨rfl, by unfold symA; rw [if_neg (by decide), if_neg (by decide), if_neg (by decide), if_pos (by omega), c114]; rfl⟩)
        · refine mm_iconst (v := nI 1) dX11_symbol_117 (by decide) ?_
          refine mm_goto (tgt := 122) dX11_symbol_118 (by decide) ?_
          exact mm_iret dX11_symbol_122 rfl (⟨rfl, by unfold symA; rw [if_neg (by decide), if_neg (by decide), if_neg (by decide), if_pos (by omega), c114]; rfl⟩)
      · refine mm_iconst (v := (-1)) dX11_symbol_101 (by decide) ?_
        refine mm_goto (tgt := 122) dX11_symbol_102 (by decide) ?_
        exact mm_iret dX11_symbol_122 rfl (⟨rfl, by unfold symA; rw [if_neg (by decide), if_neg (by decide), if_neg (by decide), if_neg (by omega)]⟩)
    · omega
set_option maxRecDepth 100000 in
set_option maxHeartbeats 4000000 in
theorem cM_symbolO {l : Launch} {D : va_G} {aa : Nat → ClassId} {b0 : Nat} {h : mm_H} {o : Nat} {X : Nat → Nat → Int32} {Y : Nat → Nat → Int64} {rl : Option Nat} {s : aS} {ST : Nat → Bool} {n : Nat} {i : Nat} {w : Int32} (ha : cm_at o X Y rl h) (hW : WF s) (hI : CI s ST X Y rl) (hn : n < aNv s) (hi : i < aSz s n) (hw : w < 0 ∨ nI 4 ≤ w) : mm_V (zz_K l D aa b0) 2 yX11_symbol cX11_symbol 6 (some .int) 0 [(0, .ref (o + 0)), (1, .int (nI (n))), (2, .int (nI (i))), (3, .int (w))] [] h 0 0 (fun rv h' => h' = h ∧ rv = some (.int (-2))) := by
  have hf := cm_fr.rf (o := o) (h := h)
  have hn6 : n < 6 := by have := hW.1.1; omega
  have hva : vA (61 + 10 * n) := Or.inr ⟨n, hn6, rfl⟩
  have hvok := hW.2.1 n hn6
  have hrk := vok_rk hvok
  have hd0 := hvok.2.2.2.2.1
  have hsz24 : aSz s n ≤ 24 := hvok.1.2
  have hL := rD_len hrk
  obtain ⟨hvs, hvw, hr2, hvst, -⟩ := hI.2.1 n hn6
  have hvs := hvs hn
  have hwi := hvw.2 i hi
  have hri := hr2.2 i hi
  have e1 : (aW s n).2.1 i = aSo s (24 * n + i) := if_pos hi
  have e2 : (aW s n).2.2.1 i = aKi s (24 * n + i) := if_pos hi
  have e3 : (aW s n).2.2.2 i = aCo s (24 * n + i) := if_pos hi
  rw [e1, e2, e3] at hwi
  rw [e1] at hri
  have hso := hwi.2.1
  refine mm_aload_n dX11_symbol_0 rfl 0 rfl ?_
  refine mm_iload_n dX11_symbol_1 rfl 1 rfl ?_
  refine cm_callVr (As := [.int (nI (n))]) (rest := []) (d2 := 0) dX11_symbol_2 ha (by decide) rfl zz_clX11 zc_X11_55 zs_X11_voiceAt rfl rfl (Nat.le_of_ble_eq_true rfl) (Nat.le_of_ble_eq_true rfl) (by decide) (cM_voiceAt ha hI.1.1 hW.1.1 hn) ?_
  refine mm_astore (L' := [(4, .ref (o + (61 + 10 * n))), (0, .ref (o + 0)), (1, .int (nI (n))), (2, .int (nI (i))), (3, .int (w))]) dX11_symbol_5 (by decide) rfl ?_
  refine mm_aload dX11_symbol_7 0 rfl ?_
  refine mm_ifnull dX11_symbol_9 ?_
  refine mm_iload_n dX11_symbol_12 rfl 3 rfl ?_
  refine mn_if_lt (tgt := 28) dX11_symbol_13 (by decide) (by omega) ?_
  refine mm_iload_n dX11_symbol_16 rfl 3 rfl ?_
  refine mm_aload dX11_symbol_17 0 rfl ?_
  refine cm_getR (b := 61 + 10 * n + 3) dX11_symbol_19 ha zr_X11_70 (vA_lt hva 0 (by decide)) (vA_0 hva) rfl rfl ?_
  refine cm_getI dX11_symbol_22 ha zr_X11_74 (vA_lt hva 3 (by decide)) (vA_3 hva) rfl ?_
  refine mn_top (u := .int (nI (aSz s n))) (congrArg Value.int ((hvw.1.1))) ?_
  refine mn_icmp_lt (tgt := 31) dX11_symbol_25 (by decide) (by omega) (by omega) (fun c25 => ?_) (fun c25 => ?_)
  · refine mm_aload dX11_symbol_31 0 rfl ?_
    refine cm_getR (b := 61 + 10 * n + 3) dX11_symbol_33 ha zr_X11_70 (vA_lt hva 0 (by decide)) (vA_0 hva) rfl rfl ?_
    refine mm_iload_n dX11_symbol_36 rfl 3 rfl ?_
    refine cm_callVr (As := [.int (nI (i))]) (rest := []) (d2 := 0) dX11_symbol_37 ha (vA_lt hva 3 (by decide)) (vA_3 hva) zz_clX6 zc_X11_79 zs_X6_sortAt rfl rfl (Nat.le_of_ble_eq_true rfl) (Nat.le_of_ble_eq_true rfl) (by decide) (cr_sortAt ha (vr_A hva) hvw.1.1 hsz24 (by omega)) ?_
    refine mn_top (u := .int (nI (aSo s (24 * n + i)))) (congrArg Value.int ((if_pos hi).trans hwi.1)) ?_
    refine mm_istore (L' := [(5, .int (nI (aSo s (24 * n + i)))), (4, .ref (o + (61 + 10 * n))), (0, .ref (o + 0)), (1, .int (nI (n))), (2, .int (nI (i))), (3, .int (w))]) dX11_symbol_40 (by decide) rfl ?_
    refine mm_iload_n dX11_symbol_42 rfl 5 rfl ?_
    refine mm_tableOut (tgt := 123) dX11_symbol_43 ((i32_out (by decide) hw).imp id (fun z => by omega)) (by decide) ?_
    refine mm_bipush (v := (-2)) dX11_symbol_123 (by decide) ?_
    exact mm_iret dX11_symbol_125 rfl (⟨rfl, rfl⟩)
  · omega
set_option maxRecDepth 100000 in
set_option maxHeartbeats 4000000 in
theorem cM_symbolI {l : Launch} {D : va_G} {aa : Nat → ClassId} {b0 : Nat} {h : mm_H} {o : Nat} {X : Nat → Nat → Int32} {Y : Nat → Nat → Int64} {rl : Option Nat} {s : aS} {ST : Nat → Bool} {n : Nat} {i w : Int32} (ha : cm_at o X Y rl h) (hW : WF s) (hI : CI s ST X Y rl) (hn : n < aNv s) (hi : i < 0 ∨ nI (aSz s n) ≤ i) : mm_V (zz_K l D aa b0) 2 yX11_symbol cX11_symbol 6 (some .int) 0 [(0, .ref (o + 0)), (1, .int (nI (n))), (2, .int (i)), (3, .int (w))] [] h 0 0 (fun rv h' => h' = h ∧ rv = some (.int (-2))) := by
  have hf := cm_fr.rf (o := o) (h := h)
  have hn6 : n < 6 := by have := hW.1.1; omega
  have hva : vA (61 + 10 * n) := Or.inr ⟨n, hn6, rfl⟩
  have hvok := hW.2.1 n hn6
  have hrk := vok_rk hvok
  have hd0 := hvok.2.2.2.2.1
  have hsz24 : aSz s n ≤ 24 := hvok.1.2
  have hL := rD_len hrk
  obtain ⟨hvs, hvw, hr2, hvst, -⟩ := hI.2.1 n hn6
  have hvs := hvs hn
  refine mm_aload_n dX11_symbol_0 rfl 0 rfl ?_
  refine mm_iload_n dX11_symbol_1 rfl 1 rfl ?_
  refine cm_callVr (As := [.int (nI (n))]) (rest := []) (d2 := 0) dX11_symbol_2 ha (by decide) rfl zz_clX11 zc_X11_55 zs_X11_voiceAt rfl rfl (Nat.le_of_ble_eq_true rfl) (Nat.le_of_ble_eq_true rfl) (by decide) (cM_voiceAt ha hI.1.1 hW.1.1 hn) ?_
  refine mm_astore (L' := [(4, .ref (o + (61 + 10 * n))), (0, .ref (o + 0)), (1, .int (nI (n))), (2, .int (i)), (3, .int (w))]) dX11_symbol_5 (by decide) rfl ?_
  refine mm_aload dX11_symbol_7 0 rfl ?_
  refine mm_ifnull dX11_symbol_9 ?_
  refine mm_iload_n dX11_symbol_12 rfl 3 rfl ?_
  refine mm_if_lt (tgt := 28) dX11_symbol_13 (by decide) (fun c13 => ?_) (fun c13 => ?_)
  · refine mm_bipush (v := (-2)) dX11_symbol_28 (by decide) ?_
    exact mm_iret dX11_symbol_30 rfl (⟨rfl, rfl⟩)
  · refine mm_iload_n dX11_symbol_16 rfl 3 rfl ?_
    refine mm_aload dX11_symbol_17 0 rfl ?_
    refine cm_getR (b := 61 + 10 * n + 3) dX11_symbol_19 ha zr_X11_70 (vA_lt hva 0 (by decide)) (vA_0 hva) rfl rfl ?_
    refine cm_getI dX11_symbol_22 ha zr_X11_74 (vA_lt hva 3 (by decide)) (vA_3 hva) rfl ?_
    refine mn_top (u := .int (nI (aSz s n))) (congrArg Value.int ((hvw.1.1))) ?_
    refine mm_icmp_lt (tgt := 31) dX11_symbol_25 (by decide) (fun c25 => ?_) (fun c25 => ?_)
    · exact hi.elim (fun z => absurd z c13) (fun z => absurd z (i32_nle c25))
    · refine mm_bipush (v := (-2)) dX11_symbol_28 (by decide) ?_
      exact mm_iret dX11_symbol_30 rfl (⟨rfl, rfl⟩)
def smN (f : Nat → Nat) : Nat → Nat
  | 0 => 0
  | n + 1 => smN f n + f n
theorem smN_le {f : Nat → Nat} {c : Nat} : ∀ n, (∀ i, i < n → f i ≤ c) → smN f n ≤ n * c
  | 0, _ => by show 0 ≤ _; omega
  | n + 1, h => by
    have h1 := smN_le n (fun i hi => h i (by omega))
    have h2 := h n (by omega)
    show smN f n + f n ≤ (n + 1) * c
    rw [Nat.add_mul]
    omega
set_option maxRecDepth 100000 in
set_option maxHeartbeats 4000000 in
theorem cM_symbolsOfAll {l : Launch} {D : va_G} {aa : Nat → ClassId} {b0 : Nat} {h : mm_H} {o : Nat} {X : Nat → Nat → Int32} {Y : Nat → Nat → Int64} {rl : Option Nat} {s : aS} {ST : Nat → Bool} (ha : cm_at o X Y rl h) (hW : WF s) (hI : CI s ST X Y rl) : mm_V (zz_K l D aa b0) 1 yX11_symbolsOfAll cX11_symbolsOfAll 4 (some .int) 0 [(0, .ref (o + 0))] [] h 0 0 (fun rv h' => h' = h ∧ rv = some (.int (nI (smN (aSz s) (aNv s))))) := by
  have hz : ∀ i, i < 6 → aSz s i ≤ 24 := fun i hi => (hW.2.1 i hi).1.2
  have h6 := hW.1.1
  have lp : ∀ (m n : Nat), n + m = aNv s → mm_V (zz_K l D aa b0) 1 yX11_symbolsOfAll cX11_symbolsOfAll 4 (some .int) 4 [(2, .int (nI (n))), (1, .int (nI (smN (aSz s) n))), (0, .ref (o + 0))] [] h 0 0 (fun rv h' => h' = h ∧ rv = some (.int (nI (smN (aSz s) (aNv s))))) := by
    intro m
    induction m with
    | zero =>
      intro n hm
      have hsm := smN_le (f := aSz s) (c := 24) n (fun i hi => hz i (by omega))
      refine mm_iload_n dX11_symbolsOfAll_4 rfl 0 rfl ?_
      refine mm_aload_n dX11_symbolsOfAll_5 rfl 2 rfl ?_
      refine cm_getI dX11_symbolsOfAll_6 ha zr_X11_47 (by decide) rfl rfl ?_
      refine mn_top (u := .int (nI (aNv s))) (congrArg Value.int ((hI.1.1))) ?_
      refine mn_icmp_ge (tgt := 38) dX11_symbolsOfAll_9 (by decide) (by omega) (by omega) (fun c9 => ?_) (fun c9 => ?_)
      · have e : n = aNv s := by omega
        subst e
        refine mm_iload_n dX11_symbolsOfAll_38 rfl 1 rfl ?_
        exact mm_iret dX11_symbolsOfAll_39 rfl (⟨rfl, rfl⟩)
      · omega
    | succ m ih =>
      intro n hm
      have hsm := smN_le (f := aSz s) (c := 24) n (fun i hi => hz i (by omega))
      refine mm_iload_n dX11_symbolsOfAll_4 rfl 0 rfl ?_
      refine mm_aload_n dX11_symbolsOfAll_5 rfl 2 rfl ?_
      refine cm_getI dX11_symbolsOfAll_6 ha zr_X11_47 (by decide) rfl rfl ?_
      refine mn_top (u := .int (nI (aNv s))) (congrArg Value.int ((hI.1.1))) ?_
      refine mn_icmp_ge (tgt := 38) dX11_symbolsOfAll_9 (by decide) (by omega) (by omega) (fun c9 => ?_) (fun c9 => ?_)
      · omega
      · have hn : n < aNv s := by omega
        have hn6 : n < 6 := by omega
        have hva : vA (61 + 10 * n) := Or.inr ⟨n, hn6, rfl⟩
        have hvw := (hI.2.1 n hn6).2.1
        have hzn := hz n hn6
        refine mm_aload_n dX11_symbolsOfAll_12 rfl 2 rfl ?_
        refine mm_iload_n dX11_symbolsOfAll_13 rfl 0 rfl ?_
        refine cm_callVr (As := [.int (nI (n))]) (rest := []) (d2 := 0) dX11_symbolsOfAll_14 ha (by decide) rfl zz_clX11 zc_X11_55 zs_X11_voiceAt rfl rfl (Nat.le_of_ble_eq_true rfl) (Nat.le_of_ble_eq_true rfl) (by decide) (cM_voiceAt ha hI.1.1 hW.1.1 hn) ?_
        refine mm_astore_n (L' := [(3, .ref (o + (61 + 10 * n))), (2, .int (nI (n))), (1, .int (nI (smN (aSz s) n))), (0, .ref (o + 0))]) dX11_symbolsOfAll_17 rfl (by decide) rfl ?_
        refine mm_aload_n dX11_symbolsOfAll_18 rfl 0 rfl ?_
        refine mm_ifnull dX11_symbolsOfAll_19 ?_
        refine mm_iload_n dX11_symbolsOfAll_22 rfl 2 rfl ?_
        refine mm_aload_n dX11_symbolsOfAll_23 rfl 0 rfl ?_
        refine cm_getR (b := 61 + 10 * n + 3) dX11_symbolsOfAll_24 ha zr_X11_70 (vA_lt hva 0 (by decide)) (vA_0 hva) rfl rfl ?_
        refine cm_getI dX11_symbolsOfAll_27 ha zr_X11_74 (vA_lt hva 3 (by decide)) (vA_3 hva) rfl ?_
        refine mn_top (u := .int (nI (aSz s n))) (congrArg Value.int ((hvw.1.1))) ?_
        refine mn_iadd dX11_symbolsOfAll_30 ?_
        refine mn_top (u := .int (nI (smN (aSz s) (n + 1)))) (congrArg Value.int (rfl)) ?_
        refine mm_istore_n (L' := [(1, .int (nI (smN (aSz s) (n + 1)))), (3, .ref (o + (61 + 10 * n))), (2, .int (nI (n))), (0, .ref (o + 0))]) dX11_symbolsOfAll_31 rfl (by decide) rfl ?_
        refine mn_iinc (m := 1) (L' := [(2, .int (nI (n + 1))), (1, .int (nI (smN (aSz s) (n + 1)))), (3, .ref (o + (61 + 10 * n))), (0, .ref (o + 0))]) dX11_symbolsOfAll_32 (by decide) 2 rfl (by decide) rfl ?_
        refine mm_goto (tgt := 4) dX11_symbolsOfAll_35 (by decide) ?_
        refine mn_sub [0, 1, 3] rfl ?_
        exact ih (n + 1) (by omega)
  refine mm_iconst (v := nI 0) dX11_symbolsOfAll_0 (by decide) ?_
  refine mm_istore_n (L' := [(1, .int (nI (0))), (0, .ref (o + 0))]) dX11_symbolsOfAll_1 rfl (by decide) rfl ?_
  refine mm_iconst (v := nI 0) dX11_symbolsOfAll_2 (by decide) ?_
  refine mm_istore_n (L' := [(2, .int (nI (0))), (1, .int (nI (0))), (0, .ref (o + 0))]) dX11_symbolsOfAll_3 rfl (by decide) rfl ?_
  refine mn_sub [0, 1, 2] rfl ?_
  exact lp (aNv s) 0 (by omega)
def cntA (s : aS) (w : Nat) : Nat := if w = 0 then aNv s else if w = 1 then aNf s else smN (aSz s) (aNv s)
set_option maxRecDepth 100000 in
set_option maxHeartbeats 4000000 in
theorem cM_count {l : Launch} {D : va_G} {aa : Nat → ClassId} {b0 : Nat} {h : mm_H} {o : Nat} {X : Nat → Nat → Int32} {Y : Nat → Nat → Int64} {rl : Option Nat} {s : aS} {ST : Nat → Bool} {w : Nat} (ha : cm_at o X Y rl h) (hW : WF s) (hI : CI s ST X Y rl) (hw3 : w < 3) : mm_V (zz_K l D aa b0) 2 yX11_count cX11_count 2 (some .int) 0 [(0, .ref (o + 0)), (1, .int (nI (w)))] [] h 0 0 (fun rv h' => h' = h ∧ rv = some (.int (nI (cntA s w)))) := by
  have hf := cm_fr.rf (o := o) (h := h)
  have hw : w = 0 ∨ w = 1 ∨ w = 2 := by omega
  rcases hw with rfl | rfl | rfl
  · refine mm_iload_n dX11_count_0 rfl 1 rfl ?_
    refine mm_tableIn (off := 27) (tgt := 28) dX11_count_1 (by decide) (by decide) (by decide) (by decide) ?_
    refine mm_aload_n dX11_count_28 rfl 0 rfl ?_
    refine cm_getI dX11_count_29 ha zr_X11_47 (by decide) rfl rfl ?_
    refine mn_top (u := .int (nI (aNv s))) (congrArg Value.int ((hI.1.1))) ?_
    exact mm_iret dX11_count_32 rfl (⟨rfl, rfl⟩)
  · refine mm_iload_n dX11_count_0 rfl 1 rfl ?_
    refine mm_tableIn (off := 32) (tgt := 33) dX11_count_1 (by decide) (by decide) (by decide) (by decide) ?_
    refine mm_aload_n dX11_count_33 rfl 0 rfl ?_
    refine cm_getI dX11_count_34 ha zr_X11_211 (by decide) rfl rfl ?_
    refine mn_top (u := .int (nI (aNf s))) (congrArg Value.int ((hI.1.2))) ?_
    exact mm_iret dX11_count_37 rfl (⟨rfl, rfl⟩)
  · refine mm_iload_n dX11_count_0 rfl 1 rfl ?_
    refine mm_tableIn (off := 37) (tgt := 38) dX11_count_1 (by decide) (by decide) (by decide) (by decide) ?_
    refine mm_aload_n dX11_count_38 rfl 0 rfl ?_
    refine cm_callVr (As := []) (rest := []) (d2 := 1) dX11_count_39 ha (by decide) rfl zz_clX11 zc_X11_242 zs_X11_symbolsOfAll rfl rfl (Nat.le_of_ble_eq_true rfl) (Nat.le_of_ble_eq_true rfl) (by decide) (cM_symbolsOfAll ha hW hI) ?_
    exact mm_iret dX11_count_42 rfl (⟨rfl, rfl⟩)
set_option maxRecDepth 100000 in
set_option maxHeartbeats 4000000 in
theorem cM_countO {l : Launch} {D : va_G} {aa : Nat → ClassId} {b0 : Nat} {h : mm_H} {o : Nat} {X : Nat → Nat → Int32} {Y : Nat → Nat → Int64} {rl : Option Nat} {s : aS} {ST : Nat → Bool} {w : Int32} (ha : cm_at o X Y rl h) (hW : WF s) (hI : CI s ST X Y rl) (hw : w < 0 ∨ nI 3 ≤ w) : mm_V (zz_K l D aa b0) 2 yX11_count cX11_count 2 (some .int) 0 [(0, .ref (o + 0)), (1, .int (w))] [] h 0 0 (fun rv h' => h' = h ∧ rv = some (.int (-2))) := by
  have hf := cm_fr.rf (o := o) (h := h)
  refine mm_iload_n dX11_count_0 rfl 1 rfl ?_
  refine mm_tableOut (tgt := 43) dX11_count_1 ((i32_out (by decide) hw).imp id (fun z => by omega)) (by decide) ?_
  refine mm_bipush (v := (-2)) dX11_count_43 (by decide) ?_
  exact mm_iret dX11_count_45 rfl (⟨rfl, rfl⟩)
