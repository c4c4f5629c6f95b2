/-! the class: voices that end together, that meet -/
set_option maxRecDepth 100000 in
set_option maxHeartbeats 4000000 in
theorem ct_upAtR {l : Launch} {D : va_G} {aa : Nat → ClassId} {b0 : Nat} {h : mm_H} {o : Nat} {X : Nat → Nat → Int32} {Y : Nat → Nat → Int64} {rl : Option Nat} {a n i : Nat} (ha : cm_at o X Y rl h) (hta : tA a) (hn : X a 4 = nI n) (hn24 : n ≤ 24) (hi : i ≤ n) : mm_V (zz_K l D aa b0) 0 yX8_upAt cX8_upAt 2 (some .long) 0 [(0, .ref (o + a)), (1, .int (nI (i)))] [] h 0 0 (fun rv h' => h' = h ∧ rv = some (.long (Y (a + 1) i))) := by
  refine mm_iload_n dX8_upAt_0 rfl 1 rfl ?_
  refine mn_if_lt (tgt := 21) dX8_upAt_1 (by decide) (by omega) ?_
  refine mm_iload_n dX8_upAt_4 rfl 1 rfl ?_
  refine mm_aload_n dX8_upAt_5 rfl 0 rfl ?_
  refine cm_getI dX8_upAt_6 ha zr_X8_49 (tA_lt hta 0 (by decide)) (tA_0 hta) rfl ?_
  refine mn_top (u := .int (nI (n))) (congrArg Value.int ((hn))) ?_
  refine mn_icmp_gt (tgt := 21) dX8_upAt_9 (by decide) (by omega) (by omega) (fun c9 => ?_) (fun c9 => ?_)
  · omega
  · refine mm_iload_n dX8_upAt_12 rfl 1 rfl ?_
    refine mm_aload_n dX8_upAt_13 rfl 0 rfl ?_
    refine cm_getR (b := a + 1) dX8_upAt_14 ha zr_X8_9 (tA_lt hta 0 (by decide)) (tA_0 hta) rfl rfl ?_
    refine cm_alenJ dX8_upAt_17 ha (tA_lt hta 1 (by decide)) (tA_1 hta) ?_
    refine mn_icmp_lt (tgt := 27) dX8_upAt_18 (by decide) (by omega) (by omega) (fun c18 => ?_) (fun c18 => ?_)
    · refine mm_aload_n dX8_upAt_27 rfl 0 rfl ?_
      refine cm_getR (b := a + 1) dX8_upAt_28 ha zr_X8_9 (tA_lt hta 0 (by decide)) (tA_0 hta) rfl rfl ?_
      refine mm_iload_n dX8_upAt_31 rfl 1 rfl ?_
      refine cm_lald (i := i) dX8_upAt_32 ha (tA_lt hta 1 (by decide)) (tA_1 hta) (by omega) (by decide) ?_
      exact mm_lret dX8_upAt_33 rfl (⟨rfl, rfl⟩)
    · omega
set_option maxRecDepth 100000 in
set_option maxHeartbeats 4000000 in
theorem ct_downAtR {l : Launch} {D : va_G} {aa : Nat → ClassId} {b0 : Nat} {h : mm_H} {o : Nat} {X : Nat → Nat → Int32} {Y : Nat → Nat → Int64} {rl : Option Nat} {a n i : Nat} (ha : cm_at o X Y rl h) (hta : tA a) (hn : X a 4 = nI n) (hn24 : n ≤ 24) (hi : i ≤ n) : mm_V (zz_K l D aa b0) 0 yX8_downAt cX8_downAt 2 (some .long) 0 [(0, .ref (o + a)), (1, .int (nI (i)))] [] h 0 0 (fun rv h' => h' = h ∧ rv = some (.long (Y (a + 2) i))) := by
  refine mm_iload_n dX8_downAt_0 rfl 1 rfl ?_
  refine mn_if_lt (tgt := 21) dX8_downAt_1 (by decide) (by omega) ?_
  refine mm_iload_n dX8_downAt_4 rfl 1 rfl ?_
  refine mm_aload_n dX8_downAt_5 rfl 0 rfl ?_
  refine cm_getI dX8_downAt_6 ha zr_X8_49 (tA_lt hta 0 (by decide)) (tA_0 hta) rfl ?_
  refine mn_top (u := .int (nI (n))) (congrArg Value.int ((hn))) ?_
  refine mn_icmp_gt (tgt := 21) dX8_downAt_9 (by decide) (by omega) (by omega) (fun c9 => ?_) (fun c9 => ?_)
  · omega
  · refine mm_iload_n dX8_downAt_12 rfl 1 rfl ?_
    refine mm_aload_n dX8_downAt_13 rfl 0 rfl ?_
    refine cm_getR (b := a + 2) dX8_downAt_14 ha zr_X8_15 (tA_lt hta 0 (by decide)) (tA_0 hta) rfl rfl ?_
    refine cm_alenJ dX8_downAt_17 ha (tA_lt hta 2 (by decide)) (tA_2 hta) ?_
    refine mn_icmp_lt (tgt := 27) dX8_downAt_18 (by decide) (by omega) (by omega) (fun c18 => ?_) (fun c18 => ?_)
    · refine mm_aload_n dX8_downAt_27 rfl 0 rfl ?_
      refine cm_getR (b := a + 2) dX8_downAt_28 ha zr_X8_15 (tA_lt hta 0 (by decide)) (tA_0 hta) rfl rfl ?_
      refine mm_iload_n dX8_downAt_31 rfl 1 rfl ?_
      refine cm_lald (i := i) dX8_downAt_32 ha (tA_lt hta 2 (by decide)) (tA_2 hta) (by omega) (by decide) ?_
      exact mm_lret dX8_downAt_33 rfl (⟨rfl, rfl⟩)
    · omega
set_option maxRecDepth 100000 in
set_option maxHeartbeats 4000000 in
theorem ct_isEndOfR {l : Launch} {D : va_G} {aa : Nat → ClassId} {b0 : Nat} {h : mm_H} {o : Nat} {X : Nat → Nat → Int32} {Y : Nat → Nat → Int64} {rl : Option Nat} {a b n m : Nat} (ha : cm_at o X Y rl h) (hta : tA a) (htb : tA b) (hn : X a 4 = nI n) (hn24 : n ≤ 24) (hm : X b 4 = nI m) (hm24 : m ≤ 24) : mm_V (zz_K l D aa b0) 1 yX8_isEndOf cX8_isEndOf 2 (some .boolean) 0 [(0, .ref (o + a)), (1, .ref (o + b))] [] h 0 0 (fun rv h' => h' = h ∧ ∃ c : Bool, rv = some (.int (nI (Bool.toNat c)))) := by
  refine mm_aload_n dX8_isEndOf_0 rfl 0 rfl ?_
  refine mm_aload_n dX8_isEndOf_1 rfl 0 rfl ?_
  refine cm_getI dX8_isEndOf_2 ha zr_X8_49 (tA_lt hta 0 (by decide)) (tA_0 hta) rfl ?_
  refine mn_top (u := .int (nI (n))) (congrArg Value.int ((hn))) ?_
  refine cm_callVr (As := [.int (nI (n))]) (rest := []) (d2 := 0) dX8_isEndOf_5 ha (tA_lt hta 0 (by decide)) (tA_0 hta) zz_clX8 zc_X8_77 zs_X8_upAt rfl rfl (Nat.le_of_ble_eq_true rfl) (Nat.le_of_ble_eq_true rfl) (by decide) (ct_upAtR ha hta hn hn24 (Nat.le_refl _)) ?_
  refine mm_aload_n dX8_isEndOf_8 rfl 1 rfl ?_
  refine mm_aload_n dX8_isEndOf_9 rfl 1 rfl ?_
  refine cm_getI dX8_isEndOf_10 ha zr_X8_49 (tA_lt htb 0 (by decide)) (tA_0 htb) rfl ?_
  refine mn_top (u := .int (nI (m))) (congrArg Value.int ((hm))) ?_
  refine cm_callVr (As := [.int (nI (m))]) (rest := [.long (Y (a + 1) n)]) (d2 := 0) dX8_isEndOf_13 ha (tA_lt htb 0 (by decide)) (tA_0 htb) zz_clX8 zc_X8_77 zs_X8_upAt rfl rfl (Nat.le_of_ble_eq_true rfl) (Nat.le_of_ble_eq_true rfl) (by decide) (ct_upAtR ha htb hm hm24 (Nat.le_refl _)) ?_
  refine mm_lcmp dX8_isEndOf_16 ?_
  refine mm_if_ne (tgt := 44) dX8_isEndOf_17 (by decide) (fun c17 => ?_) (fun c17 => ?_)
  · refine mm_iconst (v := nI 0) dX8_isEndOf_44 (by decide) ?_
    exact mm_zret dX8_isEndOf_45 rfl (by decide) (⟨rfl, false, rfl⟩)
  · refine mm_aload_n dX8_isEndOf_20 rfl 0 rfl ?_
    refine mm_aload_n dX8_isEndOf_21 rfl 0 rfl ?_
    refine cm_getI dX8_isEndOf_22 ha zr_X8_49 (tA_lt hta 0 (by decide)) (tA_0 hta) rfl ?_
    refine mn_top (u := .int (nI (n))) (congrArg Value.int ((hn))) ?_
    refine cm_callVr (As := [.int (nI (n))]) (rest := []) (d2 := 0) dX8_isEndOf_25 ha (tA_lt hta 0 (by decide)) (tA_0 hta) zz_clX8 zc_X8_80 zs_X8_downAt rfl rfl (Nat.le_of_ble_eq_true rfl) (Nat.le_of_ble_eq_true rfl) (by decide) (ct_downAtR ha hta hn hn24 (Nat.le_refl _)) ?_
    refine mm_aload_n dX8_isEndOf_28 rfl 1 rfl ?_
    refine mm_aload_n dX8_isEndOf_29 rfl 1 rfl ?_
    refine cm_getI dX8_isEndOf_30 ha zr_X8_49 (tA_lt htb 0 (by decide)) (tA_0 htb) rfl ?_
    refine mn_top (u := .int (nI (m))) (congrArg Value.int ((hm))) ?_
    refine cm_callVr (As := [.int (nI (m))]) (rest := [.long (Y (a + 2) n)]) (d2 := 0) dX8_isEndOf_33 ha (tA_lt htb 0 (by decide)) (tA_0 htb) zz_clX8 zc_X8_80 zs_X8_downAt rfl rfl (Nat.le_of_ble_eq_true rfl) (Nat.le_of_ble_eq_true rfl) (by decide) (ct_downAtR ha htb hm hm24 (Nat.le_refl _)) ?_
    refine mm_lcmp dX8_isEndOf_36 ?_
    refine mm_if_ne (tgt := 44) dX8_isEndOf_37 (by decide) (fun c37 => ?_) (fun c37 => ?_)
    · refine mm_iconst (v := nI 0) dX8_isEndOf_44 (by decide) ?_
      exact mm_zret dX8_isEndOf_45 rfl (by decide) (⟨rfl, false, rfl⟩)
    · refine mm_iconst (v := nI 1) dX8_isEndOf_40 (by decide) ?_
      refine mm_goto (tgt := 45) dX8_isEndOf_41 (by decide) ?_
      exact mm_zret dX8_isEndOf_45 rfl (by decide) (⟨rfl, true, rfl⟩)
def aYd (s : aS) (n : Nat) : gR := ((aR s n)[aPk s n]?).getD ([], [])
theorem aYd_e {s : aS} {n : Nat} {y : gR} (h : (aR s n)[aPk s n]? = some y) : aYd s n = y := by unfold aYd; rw [h]; rfl
/-- where voice n ends -/
def tgE (s : aS) (n : Nat) : Nat × Nat := aT s n (aYd s n) (aSz s n)
/-- is one of the first k voices MANY; do all of them end together -/
def tgk (s : aS) : Nat → Bool × Bool
  | 0 => (false, true)
  | k + 1 => ((tgk s k).1 || decide (1000 < (aR s k).length), (tgk s k).2 && (decide (pfA (aR s k).length = 0) && (decide (k = 0) || decide (tgE s k = tgE s 0))))
def tgA (s : aS) : Int32 := if (tgk s (aNv s)).1 = true then -4 else nI (Bool.toNat (tgk s (aNv s)).2)
theorem pfA_m {L : Nat} : pfA L = -4 ↔ 1000 < L := by
  unfold pfA
  by_cases c : 1000 < L
  · rw [if_pos c]; exact ⟨fun _ => c, fun _ => rfl⟩
  · rw [if_neg c]
    refine ⟨fun z => ?_, fun z => absurd z c⟩
    by_cases c0 : L = 0
    · rw [if_pos c0] at z; exact absurd z (by decide)
    · rw [if_neg c0] at z; exact absurd z (by decide)
theorem tgk_g {s : aS} : ∀ {n : Nat}, (tgk s n).2 = true → ∀ v, v < n → pfA (aR s v).length = 0
  | 0, _, v, hv => by omega
  | n + 1, h, v, hv => by
    have h : ((tgk s n).2 && (decide (pfA (aR s n).length = 0) && (decide (n = 0) || decide (tgE s n = tgE s 0)))) = true := h
    rw [Bool.and_eq_true, Bool.and_eq_true, decide_eq_true_eq] at h
    by_cases e : v = n
    · rw [e]; exact h.2.1
    · exact tgk_g h.1 v (by omega)
theorem tgE_b {s : aS} {n : Nat} (hW : WF s) (h : (tgk s n).2 = true) (hn : 0 < n) : (tgE s 0).1 < 2 ^ 63 ∧ (tgE s 0).2 < 2 ^ 63 := by
  have h0 := tgk_g h 0 hn
  obtain ⟨y, hy⟩ := pk_ex hW (show 0 < 6 by decide) (pfA_0 h0).2
  have := a_tb hW (show 0 < 6 by decide) hy (Nat.le_refl (aSz s 0))
  unfold tgE
  rw [aYd_e hy]
  exact ⟨this.1, this.2.1⟩
set_option maxRecDepth 100000 in
set_option maxHeartbeats 4000000 in
theorem cM_together {l : Launch} {D : va_G} {aa : Nat → ClassId} {b0 : Nat} {h : mm_H} {o : Nat} {X : Nat → Nat → Int32} {Y : Nat → Nat → Int64} {rl : Option Nat} {s : aS} {ST : Nat → Bool} (ha : cm_at o X Y rl h) (hW : WF s) (hI : CI s ST X Y rl) : mm_V (zz_K l D aa b0) 6 yX11_together cX11_together 7 (some .int) 0 [(0, .ref (o + 0))] [] h 0 0 (fun rv h' => rv = some (.int (tgA s)) ∧ ∃ (X' : Nat → Nat → Int32) (Y' : Nat → Nat → Int64) (rl' : Option Nat) (ST' : Nat → Bool), cm_at o X' Y' rl' h' ∧ cm_fr o h h' ∧ CI s ST' X' Y' rl') := by
  have hf := cm_fr.rf (o := o) (h := h)
  have lp : ∀ (m n : Nat) (X1 : Nat → Nat → Int32) (Y1 : Nat → Nat → Int64) (rl1 : Option Nat) (ST1 : Nat → Bool) (h1 : mm_H), n + m = aNv s → CI s ST1 X1 Y1 rl1 → (0 < n → (tgk s n).2 = true → X1 56 4 = nI (aSz s 0) ∧ Y1 57 (aSz s 0) = lN (tgE s 0).1 ∧ Y1 58 (aSz s 0) = lN (tgE s 0).2) → cm_at o X1 Y1 rl1 h1 → cm_fr o h h1 → mm_V (zz_K l D aa b0) 6 yX11_together cX11_together 7 (some .int) 6 [(3, .int (nI (n))), (2, .int (nI (Bool.toNat ((tgk s n).1)))), (1, .int (nI (Bool.toNat ((tgk s n).2)))), (0, .ref (o + 0))] [] h1 0 0 (fun rv h' => rv = some (.int (tgA s)) ∧ ∃ (X' : Nat → Nat → Int32) (Y' : Nat → Nat → Int64) (rl' : Option Nat) (ST' : Nat → Bool), cm_at o X' Y' rl' h' ∧ cm_fr o h h' ∧ CI s ST' X' Y' rl') := by
    intro m
    induction m with
    | zero =>
      intro n X1 Y1 rl1 ST1 h1 hm hI hfl ha hf
      have e : n = aNv s := by omega
      subst e
      have h6 := hW.1.1
      refine mm_iload_n dX11_together_6 rfl 0 rfl ?_
      refine mm_aload_n dX11_together_7 rfl 3 rfl ?_
      refine cm_getI dX11_together_8 ha zr_X11_47 (by decide) rfl rfl ?_
      refine mn_top (u := .int (nI (aNv s))) (congrArg Value.int ((hI.1.1))) ?_
      refine mn_icmp_ge (tgt := 123) dX11_together_11 (by decide) (by omega) (by omega) (fun c11 => ?_) (fun c11 => ?_)
      · refine mm_iload_n dX11_together_123 rfl 1 rfl ?_
        refine mn_ifB_eq (tgt := 132) dX11_together_124 (by decide) (fun c124 => ?_) (fun c124 => ?_)
        · refine mm_iload_n dX11_together_132 rfl 2 rfl ?_
          exact mm_iret dX11_together_133 rfl (⟨by unfold tgA; rw [if_neg (by rw [c124]; decide)], X1, Y1, rl1, ST1, ha, hf, hI⟩)
        · refine mm_bipush (v := (-4)) dX11_together_127 (by decide) ?_
          refine mm_goto (tgt := 133) dX11_together_129 (by decide) ?_
          exact mm_iret dX11_together_133 rfl (⟨by unfold tgA; rw [if_pos c124], X1, Y1, rl1, ST1, ha, hf, hI⟩)
      · omega
    | succ m ih =>
      intro n X1 Y1 rl1 ST1 h1 hm hI hfl ha hf
      have hn : n < aNv s := by omega
      have hnv6 := hW.1.1
      have hn6 : n < 6 := by have := hW.1.1; omega
      have hva : vA (61 + 10 * n) := Or.inr ⟨n, hn6, rfl⟩
      have hvok := hW.2.1 n hn6
      have hrk := vok_rk hvok
      have hd0 := hvok.2.2.2.2.1
      have hsz24 : aSz s n ≤ 24 := hvok.1.2
      have hL := rD_len hrk
      obtain ⟨hvs, hvw, hr2, hvst, -⟩ := hI.2.1 n hn6
      have hvs := hvs hn
      have tk1 : (tgk s (n + 1)).1 = ((tgk s n).1 || decide (1000 < (aR s n).length)) := rfl
      have tk2 : (tgk s (n + 1)).2 = ((tgk s n).2 && (decide (pfA (aR s n).length = 0) && (decide (n = 0) || decide (tgE s n = tgE s 0)))) := rfl
      have j117 : ∀ (X2 : Nat → Nat → Int32) (Y2 : Nat → Nat → Int64) (rl2 : Option Nat) (ST2 : Nat → Bool) (h2 : mm_H), CI s ST2 X2 Y2 rl2 → ((tgk s (n + 1)).2 = true → X2 56 4 = nI (aSz s 0) ∧ Y2 57 (aSz s 0) = lN (tgE s 0).1 ∧ Y2 58 (aSz s 0) = lN (tgE s 0).2) → cm_at o X2 Y2 rl2 h2 → cm_fr o h h2 → mm_V (zz_K l D aa b0) 6 yX11_together cX11_together 7 (some .int) 117 [(3, .int (nI (n))), (2, .int (nI (Bool.toNat ((tgk s (n + 1)).1)))), (1, .int (nI (Bool.toNat ((tgk s (n + 1)).2)))), (0, .ref (o + 0))] [] h2 0 0 (fun rv h' => rv = some (.int (tgA s)) ∧ ∃ (X' : Nat → Nat → Int32) (Y' : Nat → Nat → Int64) (rl' : Option Nat) (ST' : Nat → Bool), cm_at o X' Y' rl' h' ∧ cm_fr o h h' ∧ CI s ST' X' Y' rl') := by
        intro X2 Y2 rl2 ST2 h2 hI2 hfl2 ha2 hf2
        refine mn_iinc (m := 1) (L' := [(3, .int (nI (n + 1))), (2, .int (nI (Bool.toNat ((tgk s (n + 1)).1)))), (1, .int (nI (Bool.toNat ((tgk s (n + 1)).2)))), (0, .ref (o + 0))]) dX11_together_117 (by decide) 0 rfl (by decide) rfl ?_
        refine mm_goto (tgt := 6) dX11_together_120 (by decide) ?_
        refine mn_sub [0, 1, 2, 3] rfl ?_
        exact ih (n + 1) X2 Y2 rl2 ST2 h2 (by omega) hI2 (fun _ => hfl2) ha2 hf2
      refine mm_iload_n dX11_together_6 rfl 0 rfl ?_
      refine mm_aload_n dX11_together_7 rfl 3 rfl ?_
      refine cm_getI dX11_together_8 ha zr_X11_47 (by decide) rfl rfl ?_
      refine mn_top (u := .int (nI (aNv s))) (congrArg Value.int ((hI.1.1))) ?_
      refine mn_icmp_ge (tgt := 123) dX11_together_11 (by decide) (by omega) (by omega) (fun c11 => ?_) (fun c11 => ?_)
      · omega
      · refine mm_aload_n dX11_together_14 rfl 3 rfl ?_
        refine mm_iload_n dX11_together_15 rfl 0 rfl ?_
        refine cm_callVr (As := [.int (nI (n))]) (rest := []) (d2 := 0) dX11_together_16 ha (by decide) rfl zz_clX11 zc_X11_55 zs_X11_voiceAt rfl rfl (Nat.le_of_ble_eq_true rfl) (Nat.le_of_ble_eq_true rfl) (by decide) (cM_voiceAt ha hI.1.1 hW.1.1 hn) ?_
        refine mm_astore (L' := [(4, .ref (o + (61 + 10 * n))), (3, .int (nI (n))), (2, .int (nI (Bool.toNat ((tgk s n).1)))), (1, .int (nI (Bool.toNat ((tgk s n).2)))), (0, .ref (o + 0))]) dX11_together_19 (by decide) rfl ?_
        refine mm_aload dX11_together_21 0 rfl ?_
        refine mm_ifnonnull (tgt := 30) dX11_together_23 (by decide) ?_
        refine mm_aload_n dX11_together_30 rfl 4 rfl ?_
        refine mm_aload dX11_together_31 0 rfl ?_
        refine mm_aload dX11_together_33 0 rfl ?_
        refine cm_getI dX11_together_35 ha zr_X11_121 (vA_lt hva 0 (by decide)) (vA_0 hva) rfl ?_
        refine mn_top (u := .int (nI (aPk s n))) (congrArg Value.int ((hvst.1.1))) ?_
        refine cm_callV (As := [.ref (o + (61 + 10 * n)), .int (nI (aPk s n))]) (rest := []) (d2 := 5) dX11_together_38 ha (by decide) rfl zz_clX11 zc_X11_154 zs_X11_refusalOf rfl rfl (Nat.le_of_ble_eq_true rfl) (Nat.le_of_ble_eq_true rfl) (by decide) (cM_refusalOf ha hW hI hn) (fun r h1 hq => ?_)
        obtain ⟨rfl, X2, Y2, rl2, ST2, ha, hf', hI2, hST, hmo, hfrm⟩ := hq
        have hf := hf.tr hf'
        obtain ⟨hvs, hvw, hr2, hvst, -⟩ := hI2.2.1 n hn6
        have hvs := hvs hn
        rw [hST] at hvst
        obtain ⟨hvk, hpv⟩ := hvst.2.2 rfl
        rw [pf_rf hvok.2.2.2.2.2.2]
        refine mm_istore (L' := [(5, .int (pfA (aR s n).length)), (4, .ref (o + (61 + 10 * n))), (3, .int (nI (n))), (2, .int (nI (Bool.toNat ((tgk s n).1)))), (1, .int (nI (Bool.toNat ((tgk s n).2)))), (0, .ref (o + 0))]) dX11_together_41 (by decide) rfl ?_
        refine mm_iload_n dX11_together_43 rfl 3 rfl ?_
        refine mn_ifB_ne (tgt := 54) dX11_together_44 (by decide) (fun c44 => ?_) (fun c44 => ?_)
        · refine mm_iconst (v := nI 1) dX11_together_54 (by decide) ?_
          refine mm_goto (tgt := 59) dX11_together_55 (by decide) ?_
          refine mn_top (u := .int (nI (Bool.toNat (tgk s (n + 1)).1))) (congrArg Value.int (by rw [tk1, c44]; rfl)) ?_
          refine mm_istore_n (L' := [(2, .int (nI (Bool.toNat ((tgk s (n + 1)).1)))), (5, .int (pfA (aR s n).length)), (4, .ref (o + (61 + 10 * n))), (3, .int (nI (n))), (1, .int (nI (Bool.toNat ((tgk s n).2)))), (0, .ref (o + 0))]) dX11_together_59 rfl (by decide) rfl ?_
          refine mm_aload dX11_together_60 2 rfl ?_
          refine mm_ifnull dX11_together_62 ?_
          refine mm_iload dX11_together_65 1 rfl ?_
          refine mm_if_eq (tgt := 75) dX11_together_67 (by decide) (fun c67 => ?_) (fun c67 => ?_)
          · obtain ⟨hN, hL0⟩ := pfA_0 c67
            obtain ⟨y, hy⟩ := pk_ex hW hn6 hL0
            have hyd := aYd_e hy
            have htE : tgE s n = aT s n y (aSz s n) := by unfold tgE; rw [hyd]
            have tk3 : (tgk s (n + 1)).2 = ((tgk s n).2 && (decide (n = 0) || decide (tgE s n = tgE s 0))) := by rw [tk2, decide_eq_true c67, Bool.true_and]
            refine mm_iload_n dX11_together_75 rfl 3 rfl ?_
            refine mn_if_ne (tgt := 86) dX11_together_76 (by decide) (by omega) (fun c76 => ?_) (fun c76 => ?_)
            · refine mm_aload_n dX11_together_86 rfl 5 rfl ?_
              refine cm_getR (b := 51) dX11_together_87 ha zr_X11_38 (by decide) rfl rfl rfl ?_
              refine mm_astore (L' := [(6, .ref (o + 51)), (2, .int (nI (Bool.toNat ((tgk s (n + 1)).1)))), (5, .int (pfA (aR s n).length)), (4, .ref (o + (61 + 10 * n))), (3, .int (nI (n))), (1, .int (nI (Bool.toNat ((tgk s n).2)))), (0, .ref (o + 0))]) dX11_together_90 (by decide) rfl ?_
              refine mm_aload dX11_together_92 0 rfl ?_
              refine mm_aload dX11_together_94 3 rfl ?_
              refine cm_callV (As := [.ref (o + (61 + 10 * n))]) (rest := []) (d2 := 3) dX11_together_96 ha (by decide) rfl zz_clX8 zc_X11_185 zs_X8_fill rfl rfl (Nat.le_of_ble_eq_true rfl) (Nat.le_of_ble_eq_true rfl) (by decide) (ct_fill (a := 51) (v := 61 + 10 * n) (n := aSz s n) (V := aV y) (ua := fun i => aUa s (24 * n + i)) (da := fun i => aDa s (24 * n + i)) ha (Or.inl rfl) hva hvw.1.1 hsz24 (hpv hN y hy) (fun i hi => (hr2.2 i hi).2.1) (fun i hi => (hr2.2 i hi).2.2) (a_sz hW hn6 hy) (a_u1 hW hn6)) (fun r h1 hq => ?_)
              obtain ⟨rfl, Y3, ha, hf', hfy, hTT⟩ := hq
              have hf := hf.tr hf'
              have hI3 := CI_sc (X' := xu X2 51 4 (nI (aSz s n))) hI2 (hI2.2.2.2.2.1.2.elim (fun m hm => ⟨m, hm.1, (xu_a (by decide)).trans hm.2⟩)) (fun b i z => xu_a (by omega)) (fun b i z => hfy b i (by omega))
              have t2e : (tgk s (n + 1)).2 = ((tgk s n).2 && decide (tgE s n = tgE s 0)) := by rw [tk3, decide_eq_false (show ¬ n = 0 from c76), Bool.false_or]
              refine mm_iload_n dX11_together_99 rfl 4 rfl ?_
              refine mn_if_le (tgt := 117) dX11_together_100 (by decide) (by omega) (fun c100 => ?_) (fun c100 => ?_)
              · omega
              · refine mm_aload dX11_together_103 0 rfl ?_
                refine mm_aload_n dX11_together_105 rfl 6 rfl ?_
                refine cm_getR (b := 56) dX11_together_106 ha zr_X11_42 (by decide) rfl rfl rfl ?_
                cases hb : (tgk s n).2 with
                | false =>
                  obtain ⟨m56, hm56, hx56⟩ := hI3.2.2.2.2.1.2
                  refine cm_callV (As := [.ref (o + 56)]) (rest := []) (d2 := 1) dX11_together_109 ha (by decide) rfl zz_clX8 zc_X11_199 zs_X8_isEndOf rfl rfl (Nat.le_of_ble_eq_true rfl) (Nat.le_of_ble_eq_true rfl) (by decide) (ct_isEndOfR (a := 51) (b := 56) ha (Or.inl rfl) (Or.inr rfl) xu_s hsz24 hx56 hm56) (fun r h1 hq => ?_)
                  obtain ⟨rfl, cb, rfl⟩ := hq
                  have t2f : (tgk s (n + 1)).2 = false := by rw [t2e, hb, Bool.false_and]
                  refine mn_ifB_ne (tgt := 117) dX11_together_112 (by decide) (fun c112 => ?_) (fun c112 => ?_)
                  · refine mn_sub [4, 1, 5, 6] rfl ?_
                    have j := j117 _ Y3 rl2 ST2 _ hI3 (fun z => by rw [t2f] at z; cases z) ha hf
                    rw [t2f] at j
                    exact j
                  · refine mm_iconst (v := nI 0) dX11_together_115 (by decide) ?_
                    refine mm_istore_n (L' := [(1, .int (nI (0))), (6, .ref (o + 51)), (2, .int (nI (Bool.toNat ((tgk s (n + 1)).1)))), (5, .int (pfA (aR s n).length)), (4, .ref (o + (61 + 10 * n))), (3, .int (nI (n))), (0, .ref (o + 0))]) dX11_together_116 rfl (by decide) rfl ?_
                    refine mn_sub [5, 2, 0, 6] rfl ?_
                    have j := j117 _ Y3 rl2 ST2 _ hI3 (fun z => by rw [t2f] at z; cases z) ha hf
                    rw [t2f] at j
                    exact j
                | true =>
                  obtain ⟨q1, q2, q3⟩ := hfl (by omega) hb
                  have b1 := a_tb hW hn6 hy (Nat.le_refl (aSz s n))
                  have hz0 : aSz s 0 ≤ 24 := (hW.2.1 0 (by decide)).1.2
                  have b0 : (tgE s 0).1 < 2 ^ 63 ∧ (tgE s 0).2 < 2 ^ 63 := tgE_b hW hb (by omega)
                  have g1 : (xu X2 51 4 (nI (aSz s n))) 56 4 = nI (aSz s 0) := (xu_a (by decide)).trans ((hfrm 56 4 (by omega) (by omega)).1.trans q1)
                  have g2 : Y3 57 (aSz s 0) = lN (tgE s 0).1 := (hfy 57 _ (by omega)).trans ((hfrm 57 _ (by omega) (by omega)).2.trans q2)
                  have g3 : Y3 58 (aSz s 0) = lN (tgE s 0).2 := (hfy 58 _ (by omega)).trans ((hfrm 58 _ (by omega) (by omega)).2.trans q3)
                  refine cm_callVr (As := [.ref (o + 56)]) (rest := []) (d2 := 1) dX11_together_109 ha (by decide) rfl zz_clX8 zc_X11_199 zs_X8_isEndOf rfl rfl (Nat.le_of_ble_eq_true rfl) (Nat.le_of_ble_eq_true rfl) (by decide) (ct_isEndOf (a := 51) (b := 56) (n := aSz s n) (m := aSz s 0) (u := (aT s n y (aSz s n)).1) (d := (aT s n y (aSz s n)).2) (c := (tgE s 0).1) (e := (tgE s 0).2) ha (Or.inl rfl) (Or.inr rfl) xu_s hsz24 g1 hz0 (hTT _ (Nat.le_refl _)).1 (hTT _ (Nat.le_refl _)).2 g2 g3 b1.1 b1.2.1 b0.1 b0.2) ?_
                  have heq : ((aT s n y (aSz s n)).1 = (tgE s 0).1 ∧ (aT s n y (aSz s n)).2 = (tgE s 0).2) ↔ tgE s n = tgE s 0 := by rw [htE]; exact ⟨fun z => Prod.ext z.1 z.2, fun z => by rw [z]; exact ⟨rfl, rfl⟩⟩
                  refine mn_ifB_ne (tgt := 117) dX11_together_112 (by decide) (fun c112 => ?_) (fun c112 => ?_)
                  · have t2t : (tgk s (n + 1)).2 = true := by rw [t2e, hb, decide_eq_true (heq.mp (of_decide_eq_true c112))]; rfl
                    refine mn_sub [4, 1, 5, 6] rfl ?_
                    have j := j117 _ Y3 rl2 ST2 _ hI3 (fun _ => ⟨g1, g2, g3⟩) ha hf
                    rw [t2t] at j
                    exact j
                  · refine mm_iconst (v := nI 0) dX11_together_115 (by decide) ?_
                    refine mm_istore_n (L' := [(1, .int (nI (0))), (6, .ref (o + 51)), (2, .int (nI (Bool.toNat ((tgk s (n + 1)).1)))), (5, .int (pfA (aR s n).length)), (4, .ref (o + (61 + 10 * n))), (3, .int (nI (n))), (0, .ref (o + 0))]) dX11_together_116 rfl (by decide) rfl ?_
                    have t2f : (tgk s (n + 1)).2 = false := by rw [t2e, decide_eq_false (fun z => of_decide_eq_false c112 (heq.mpr z)), Bool.and_false]
                    refine mn_sub [5, 2, 0, 6] rfl ?_
                    have j := j117 _ Y3 rl2 ST2 _ hI3 (fun z => by rw [t2f] at z; cases z) ha hf
                    rw [t2f] at j
                    exact j
            · have hn0 : n = 0 := by omega
              refine mm_aload_n dX11_together_79 rfl 5 rfl ?_
              refine cm_getR (b := 56) dX11_together_80 ha zr_X11_42 (by decide) rfl rfl rfl ?_
              refine mm_goto (tgt := 90) dX11_together_83 (by decide) ?_
              refine mm_astore (L' := [(6, .ref (o + 56)), (2, .int (nI (Bool.toNat ((tgk s (n + 1)).1)))), (5, .int (pfA (aR s n).length)), (4, .ref (o + (61 + 10 * n))), (3, .int (nI (n))), (1, .int (nI (Bool.toNat ((tgk s n).2)))), (0, .ref (o + 0))]) dX11_together_90 (by decide) rfl ?_
              refine mm_aload dX11_together_92 0 rfl ?_
              refine mm_aload dX11_together_94 3 rfl ?_
              refine cm_callV (As := [.ref (o + (61 + 10 * n))]) (rest := []) (d2 := 3) dX11_together_96 ha (by decide) rfl zz_clX8 zc_X11_185 zs_X8_fill rfl rfl (Nat.le_of_ble_eq_true rfl) (Nat.le_of_ble_eq_true rfl) (by decide) (ct_fill (a := 56) (v := 61 + 10 * n) (n := aSz s n) (V := aV y) (ua := fun i => aUa s (24 * n + i)) (da := fun i => aDa s (24 * n + i)) ha (Or.inr rfl) hva hvw.1.1 hsz24 (hpv hN y hy) (fun i hi => (hr2.2 i hi).2.1) (fun i hi => (hr2.2 i hi).2.2) (a_sz hW hn6 hy) (a_u1 hW hn6)) (fun r h1 hq => ?_)
              obtain ⟨rfl, Y3, ha, hf', hfy, hTT⟩ := hq
              have hf := hf.tr hf'
              have hI3 := CI_sc (X' := xu X2 56 4 (nI (aSz s n))) hI2 ⟨aSz s n, hsz24, xu_s⟩ (fun b i z => xu_a (by omega)) (fun b i z => hfy b i (by omega))
              have t2e : (tgk s (n + 1)).2 = (tgk s n).2 := by rw [tk3, decide_eq_true hn0, Bool.true_or, Bool.and_true]
              refine mm_iload_n dX11_together_99 rfl 4 rfl ?_
              refine mn_if_le (tgt := 117) dX11_together_100 (by decide) (by omega) (fun c100 => ?_) (fun c100 => ?_)
              · refine mn_sub [4, 1, 5, 6] rfl ?_
                have j := j117 (xu X2 56 4 (nI (aSz s n))) Y3 rl2 ST2 _ hI3 (fun _ => ?_) ha hf
                · rw [t2e] at j; exact j
                · rw [← hn0, htE]; exact ⟨xu_s, (hTT _ (Nat.le_refl _)).1, (hTT _ (Nat.le_refl _)).2⟩
              · omega
          · refine mm_iconst (v := nI 0) dX11_together_70 (by decide) ?_
            have t2f : (tgk s (n + 1)).2 = false := by rw [tk2, decide_eq_false c67, Bool.false_and, Bool.and_false]
            refine mn_top (u := .int (nI (Bool.toNat (tgk s (n + 1)).2))) (congrArg Value.int (by rw [t2f]; rfl)) ?_
            refine mm_istore_n (L' := [(1, .int (nI (Bool.toNat ((tgk s (n + 1)).2)))), (2, .int (nI (Bool.toNat ((tgk s (n + 1)).1)))), (5, .int (pfA (aR s n).length)), (4, .ref (o + (61 + 10 * n))), (3, .int (nI (n))), (0, .ref (o + 0))]) dX11_together_71 rfl (by decide) rfl ?_
            refine mm_goto (tgt := 117) dX11_together_72 (by decide) ?_
            refine mn_sub [4, 1, 0, 5] rfl ?_
            exact j117 X2 Y2 rl2 ST2 _ hI2 (fun z => by rw [t2f] at z; cases z) ha hf
        · refine mm_iload dX11_together_47 0 rfl ?_
          refine mm_bipush (v := (-4)) dX11_together_49 (by decide) ?_
          refine mm_icmp_ne (tgt := 58) dX11_together_51 (by decide) (fun c51 => ?_) (fun c51 => ?_)
          · refine mm_iconst (v := nI 0) dX11_together_58 (by decide) ?_
            refine mn_top (u := .int (nI (Bool.toNat (tgk s (n + 1)).1))) (congrArg Value.int (by rw [tk1, c44, decide_eq_false (fun z => c51 (pfA_m.mpr z))]; rfl)) ?_
            refine mm_istore_n (L' := [(2, .int (nI (Bool.toNat ((tgk s (n + 1)).1)))), (5, .int (pfA (aR s n).length)), (4, .ref (o + (61 + 10 * n))), (3, .int (nI (n))), (1, .int (nI (Bool.toNat ((tgk s n).2)))), (0, .ref (o + 0))]) dX11_together_59 rfl (by decide) rfl ?_
            refine mm_aload dX11_together_60 2 rfl ?_
            refine mm_ifnull dX11_together_62 ?_
            refine mm_iload dX11_together_65 1 rfl ?_
            refine mm_if_eq (tgt := 75) dX11_together_67 (by decide) (fun c67 => ?_) (fun c67 => ?_)
            · obtain ⟨hN, hL0⟩ := pfA_0 c67
              obtain ⟨y, hy⟩ := pk_ex hW hn6 hL0
              have hyd := aYd_e hy
              have htE : tgE s n = aT s n y (aSz s n) := by unfold tgE; rw [hyd]
              have tk3 : (tgk s (n + 1)).2 = ((tgk s n).2 && (decide (n = 0) || decide (tgE s n = tgE s 0))) := by rw [tk2, decide_eq_true c67, Bool.true_and]
              refine mm_iload_n dX11_together_75 rfl 3 rfl ?_
              refine mn_if_ne (tgt := 86) dX11_together_76 (by decide) (by omega) (fun c76 => ?_) (fun c76 => ?_)
              · refine mm_aload_n dX11_together_86 rfl 5 rfl ?_
                refine cm_getR (b := 51) dX11_together_87 ha zr_X11_38 (by decide) rfl rfl rfl ?_
                refine mm_astore (L' := [(6, .ref (o + 51)), (2, .int (nI (Bool.toNat ((tgk s (n + 1)).1)))), (5, .int (pfA (aR s n).length)), (4, .ref (o + (61 + 10 * n))), (3, .int (nI (n))), (1, .int (nI (Bool.toNat ((tgk s n).2)))), (0, .ref (o + 0))]) dX11_together_90 (by decide) rfl ?_
                refine mm_aload dX11_together_92 0 rfl ?_
                refine mm_aload dX11_together_94 3 rfl ?_
                refine cm_callV (As := [.ref (o + (61 + 10 * n))]) (rest := []) (d2 := 3) dX11_together_96 ha (by decide) rfl zz_clX8 zc_X11_185 zs_X8_fill rfl rfl (Nat.le_of_ble_eq_true rfl) (Nat.le_of_ble_eq_true rfl) (by decide) (ct_fill (a := 51) (v := 61 + 10 * n) (n := aSz s n) (V := aV y) (ua := fun i => aUa s (24 * n + i)) (da := fun i => aDa s (24 * n + i)) ha (Or.inl rfl) hva hvw.1.1 hsz24 (hpv hN y hy) (fun i hi => (hr2.2 i hi).2.1) (fun i hi => (hr2.2 i hi).2.2) (a_sz hW hn6 hy) (a_u1 hW hn6)) (fun r h1 hq => ?_)
                obtain ⟨rfl, Y3, ha, hf', hfy, hTT⟩ := hq
                have hf := hf.tr hf'
                have hI3 := CI_sc (X' := xu X2 51 4 (nI (aSz s n))) hI2 (hI2.2.2.2.2.1.2.elim (fun m hm => ⟨m, hm.1, (xu_a (by decide)).trans hm.2⟩)) (fun b i z => xu_a (by omega)) (fun b i z => hfy b i (by omega))
                have t2e : (tgk s (n + 1)).2 = ((tgk s n).2 && decide (tgE s n = tgE s 0)) := by rw [tk3, decide_eq_false (show ¬ n = 0 from c76), Bool.false_or]
                refine mm_iload_n dX11_together_99 rfl 4 rfl ?_
                refine mn_if_le (tgt := 117) dX11_together_100 (by decide) (by omega) (fun c100 => ?_) (fun c100 => ?_)
                · omega
                · refine mm_aload dX11_together_103 0 rfl ?_
                  refine mm_aload_n dX11_together_105 rfl 6 rfl ?_
                  refine cm_getR (b := 56) dX11_together_106 ha zr_X11_42 (by decide) rfl rfl rfl ?_
                  cases hb : (tgk s n).2 with
                  | false =>
                    obtain ⟨m56, hm56, hx56⟩ := hI3.2.2.2.2.1.2
                    refine cm_callV (As := [.ref (o + 56)]) (rest := []) (d2 := 1) dX11_together_109 ha (by decide) rfl zz_clX8 zc_X11_199 zs_X8_isEndOf rfl rfl (Nat.le_of_ble_eq_true rfl) (Nat.le_of_ble_eq_true rfl) (by decide) (ct_isEndOfR (a := 51) (b := 56) ha (Or.inl rfl) (Or.inr rfl) xu_s hsz24 hx56 hm56) (fun r h1 hq => ?_)
                    obtain ⟨rfl, cb, rfl⟩ := hq
                    have t2f : (tgk s (n + 1)).2 = false := by rw [t2e, hb, Bool.false_and]
                    refine mn_ifB_ne (tgt := 117) dX11_together_112 (by decide) (fun c112 => ?_) (fun c112 => ?_)
                    · refine mn_sub [4, 1, 5, 6] rfl ?_
                      have j := j117 _ Y3 rl2 ST2 _ hI3 (fun z => by rw [t2f] at z; cases z) ha hf
                      rw [t2f] at j
                      exact j
                    · refine mm_iconst (v := nI 0) dX11_together_115 (by decide) ?_
                      refine mm_istore_n (L' := [(1, .int (nI (0))), (6, .ref (o + 51)), (2, .int (nI (Bool.toNat ((tgk s (n + 1)).1)))), (5, .int (pfA (aR s n).length)), (4, .ref (o + (61 + 10 * n))), (3, .int (nI (n))), (0, .ref (o + 0))]) dX11_together_116 rfl (by decide) rfl ?_
                      refine mn_sub [5, 2, 0, 6] rfl ?_
                      have j := j117 _ Y3 rl2 ST2 _ hI3 (fun z => by rw [t2f] at z; cases z) ha hf
                      rw [t2f] at j
                      exact j
                  | true =>
                    obtain ⟨q1, q2, q3⟩ := hfl (by omega) hb
                    have b1 := a_tb hW hn6 hy (Nat.le_refl (aSz s n))
                    have hz0 : aSz s 0 ≤ 24 := (hW.2.1 0 (by decide)).1.2
                    have b0 : (tgE s 0).1 < 2 ^ 63 ∧ (tgE s 0).2 < 2 ^ 63 := tgE_b hW hb (by omega)
                    have g1 : (xu X2 51 4 (nI (aSz s n))) 56 4 = nI (aSz s 0) := (xu_a (by decide)).trans ((hfrm 56 4 (by omega) (by omega)).1.trans q1)
                    have g2 : Y3 57 (aSz s 0) = lN (tgE s 0).1 := (hfy 57 _ (by omega)).trans ((hfrm 57 _ (by omega) (by omega)).2.trans q2)
                    have g3 : Y3 58 (aSz s 0) = lN (tgE s 0).2 := (hfy 58 _ (by omega)).trans ((hfrm 58 _ (by omega) (by omega)).2.trans q3)
                    refine cm_callVr (As := [.ref (o + 56)]) (rest := []) (d2 := 1) dX11_together_109 ha (by decide) rfl zz_clX8 zc_X11_199 zs_X8_isEndOf rfl rfl (Nat.le_of_ble_eq_true rfl) (Nat.le_of_ble_eq_true rfl) (by decide) (ct_isEndOf (a := 51) (b := 56) (n := aSz s n) (m := aSz s 0) (u := (aT s n y (aSz s n)).1) (d := (aT s n y (aSz s n)).2) (c := (tgE s 0).1) (e := (tgE s 0).2) ha (Or.inl rfl) (Or.inr rfl) xu_s hsz24 g1 hz0 (hTT _ (Nat.le_refl _)).1 (hTT _ (Nat.le_refl _)).2 g2 g3 b1.1 b1.2.1 b0.1 b0.2) ?_
                    have heq : ((aT s n y (aSz s n)).1 = (tgE s 0).1 ∧ (aT s n y (aSz s n)).2 = (tgE s 0).2) ↔ tgE s n = tgE s 0 := by rw [htE]; exact ⟨fun z => Prod.ext z.1 z.2, fun z => by rw [z]; exact ⟨rfl, rfl⟩⟩
                    refine mn_ifB_ne (tgt := 117) dX11_together_112 (by decide) (fun c112 => ?_) (fun c112 => ?_)
                    · have t2t : (tgk s (n + 1)).2 = true := by rw [t2e, hb, decide_eq_true (heq.mp (of_decide_eq_true c112))]; rfl
                      refine mn_sub [4, 1, 5, 6] rfl ?_
                      have j := j117 _ Y3 rl2 ST2 _ hI3 (fun _ => ⟨g1, g2, g3⟩) ha hf
                      rw [t2t] at j
                      exact j
                    · refine mm_iconst (v := nI 0) dX11_together_115 (by decide) ?_
                      refine mm_istore_n (L' := [(1, .int (nI (0))), (6, .ref (o + 51)), (2, .int (nI (Bool.toNat ((tgk s (n + 1)).1)))), (5, .int (pfA (aR s n).length)), (4, .ref (o + (61 + 10 * n))), (3, .int (nI (n))), (0, .ref (o + 0))]) dX11_together_116 rfl (by decide) rfl ?_
                      have t2f : (tgk s (n + 1)).2 = false := by rw [t2e, decide_eq_false (fun z => of_decide_eq_false c112 (heq.mpr z)), Bool.and_false]
                      refine mn_sub [5, 2, 0, 6] rfl ?_
                      have j := j117 _ Y3 rl2 ST2 _ hI3 (fun z => by rw [t2f] at z; cases z) ha hf
                      rw [t2f] at j
                      exact j
              · have hn0 : n = 0 := by omega
                refine mm_aload_n dX11_together_79 rfl 5 rfl ?_
                refine cm_getR (b := 56) dX11_together_80 ha zr_X11_42 (by decide) rfl rfl rfl ?_
                refine mm_goto (tgt := 90) dX11_together_83 (by decide) ?_
                refine mm_astore (L' := [(6, .ref (o + 56)), (2, .int (nI (Bool.toNat ((tgk s (n + 1)).1)))), (5, .int (pfA (aR s n).length)), (4, .ref (o + (61 + 10 * n))), (3, .int (nI (n))), (1, .int (nI (Bool.toNat ((tgk s n).2)))), (0, .ref (o + 0))]) dX11_together_90 (by decide) rfl ?_
                refine mm_aload dX11_together_92 0 rfl ?_
                refine mm_aload dX11_together_94 3 rfl ?_
                refine cm_callV (As := [.ref (o + (61 + 10 * n))]) (rest := []) (d2 := 3) dX11_together_96 ha (by decide) rfl zz_clX8 zc_X11_185 zs_X8_fill rfl rfl (Nat.le_of_ble_eq_true rfl) (Nat.le_of_ble_eq_true rfl) (by decide) (ct_fill (a := 56) (v := 61 + 10 * n) (n := aSz s n) (V := aV y) (ua := fun i => aUa s (24 * n + i)) (da := fun i => aDa s (24 * n + i)) ha (Or.inr rfl) hva hvw.1.1 hsz24 (hpv hN y hy) (fun i hi => (hr2.2 i hi).2.1) (fun i hi => (hr2.2 i hi).2.2) (a_sz hW hn6 hy) (a_u1 hW hn6)) (fun r h1 hq => ?_)
                obtain ⟨rfl, Y3, ha, hf', hfy, hTT⟩ := hq
                have hf := hf.tr hf'
                have hI3 := CI_sc (X' := xu X2 56 4 (nI (aSz s n))) hI2 ⟨aSz s n, hsz24, xu_s⟩ (fun b i z => xu_a (by omega)) (fun b i z => hfy b i (by omega))
                have t2e : (tgk s (n + 1)).2 = (tgk s n).2 := by rw [tk3, decide_eq_true hn0, Bool.true_or, Bool.and_true]
                refine mm_iload_n dX11_together_99 rfl 4 rfl ?_
                refine mn_if_le (tgt := 117) dX11_together_100 (by decide) (by omega) (fun c100 => ?_) (fun c100 => ?_)
                · refine mn_sub [4, 1, 5, 6] rfl ?_
                  have j := j117 (xu X2 56 4 (nI (aSz s n))) Y3 rl2 ST2 _ hI3 (fun _ => ?_) ha hf
                  · rw [t2e] at j; exact j
                  · rw [← hn0, htE]; exact ⟨xu_s, (hTT _ (Nat.le_refl _)).1, (hTT _ (Nat.le_refl _)).2⟩
                · omega
            · refine mm_iconst (v := nI 0) dX11_together_70 (by decide) ?_
              have t2f : (tgk s (n + 1)).2 = false := by rw [tk2, decide_eq_false c67, Bool.false_and, Bool.and_false]
              refine mn_top (u := .int (nI (Bool.toNat (tgk s (n + 1)).2))) (congrArg Value.int (by rw [t2f]; rfl)) ?_
              refine mm_istore_n (L' := [(1, .int (nI (Bool.toNat ((tgk s (n + 1)).2)))), (2, .int (nI (Bool.toNat ((tgk s (n + 1)).1)))), (5, .int (pfA (aR s n).length)), (4, .ref (o + (61 + 10 * n))), (3, .int (nI (n))), (0, .ref (o + 0))]) dX11_together_71 rfl (by decide) rfl ?_
              refine mm_goto (tgt := 117) dX11_together_72 (by decide) ?_
              refine mn_sub [4, 1, 0, 5] rfl ?_
              exact j117 X2 Y2 rl2 ST2 _ hI2 (fun z => by rw [t2f] at z; cases z) ha hf
          · refine mm_iconst (v := nI 1) dX11_together_54 (by decide) ?_
            refine mm_goto (tgt := 59) dX11_together_55 (by decide) ?_
            refine mn_top (u := .int (nI (Bool.toNat (tgk s (n + 1)).1))) (congrArg Value.int (by rw [tk1, decide_eq_true (pfA_m.mp c51), Bool.or_true]; rfl)) ?_
            refine mm_istore_n (L' := [(2, .int (nI (Bool.toNat ((tgk s (n + 1)).1)))), (5, .int (pfA (aR s n).length)), (4, .ref (o + (61 + 10 * n))), (3, .int (nI (n))), (1, .int (nI (Bool.toNat ((tgk s n).2)))), (0, .ref (o + 0))]) dX11_together_59 rfl (by decide) rfl ?_
            refine mm_aload dX11_together_60 2 rfl ?_
            refine mm_ifnull dX11_together_62 ?_
            refine mm_iload dX11_together_65 1 rfl ?_
            refine mm_if_eq (tgt := 75) dX11_together_67 (by decide) (fun c67 => ?_) (fun c67 => ?_)
            · obtain ⟨hN, hL0⟩ := pfA_0 c67
              obtain ⟨y, hy⟩ := pk_ex hW hn6 hL0
              have hyd := aYd_e hy
              have htE : tgE s n = aT s n y (aSz s n) := by unfold tgE; rw [hyd]
              have tk3 : (tgk s (n + 1)).2 = ((tgk s n).2 && (decide (n = 0) || decide (tgE s n = tgE s 0))) := by rw [tk2, decide_eq_true c67, Bool.true_and]
              refine mm_iload_n dX11_together_75 rfl 3 rfl ?_
              refine mn_if_ne (tgt := 86) dX11_together_76 (by decide) (by omega) (fun c76 => ?_) (fun c76 => ?_)
              · refine mm_aload_n dX11_together_86 rfl 5 rfl ?_
                refine cm_getR (b := 51) dX11_together_87 ha zr_X11_38 (by decide) rfl rfl rfl ?_
                refine mm_astore (L' := [(6, .ref (o + 51)), (2, .int (nI (Bool.toNat ((tgk s (n + 1)).1)))), (5, .int (pfA (aR s n).length)), (4, .ref (o + (61 + 10 * n))), (3, .int (nI (n))), (1, .int (nI (Bool.toNat ((tgk s n).2)))), (0, .ref (o + 0))]) dX11_together_90 (by decide) rfl ?_
                refine mm_aload dX11_together_92 0 rfl ?_
                refine mm_aload dX11_together_94 3 rfl ?_
                refine cm_callV (As := [.ref (o + (61 + 10 * n))]) (rest := []) (d2 := 3) dX11_together_96 ha (by decide) rfl zz_clX8 zc_X11_185 zs_X8_fill rfl rfl (Nat.le_of_ble_eq_true rfl) (Nat.le_of_ble_eq_true rfl) (by decide) (ct_fill (a := 51) (v := 61 + 10 * n) (n := aSz s n) (V := aV y) (ua := fun i => aUa s (24 * n + i)) (da := fun i => aDa s (24 * n + i)) ha (Or.inl rfl) hva hvw.1.1 hsz24 (hpv hN y hy) (fun i hi => (hr2.2 i hi).2.1) (fun i hi => (hr2.2 i hi).2.2) (a_sz hW hn6 hy) (a_u1 hW hn6)) (fun r h1 hq => ?_)
                obtain ⟨rfl, Y3, ha, hf', hfy, hTT⟩ := hq
                have hf := hf.tr hf'
                have hI3 := CI_sc (X' := xu X2 51 4 (nI (aSz s n))) hI2 (hI2.2.2.2.2.1.2.elim (fun m hm => ⟨m, hm.1, (xu_a (by decide)).trans hm.2⟩)) (fun b i z => xu_a (by omega)) (fun b i z => hfy b i (by omega))
                have t2e : (tgk s (n + 1)).2 = ((tgk s n).2 && decide (tgE s n = tgE s 0)) := by rw [tk3, decide_eq_false (show ¬ n = 0 from c76), Bool.false_or]
                refine mm_iload_n dX11_together_99 rfl 4 rfl ?_
                refine mn_if_le (tgt := 117) dX11_together_100 (by decide) (by omega) (fun c100 => ?_) (fun c100 => ?_)
                · omega
                · refine mm_aload dX11_together_103 0 rfl ?_
                  refine mm_aload_n dX11_together_105 rfl 6 rfl ?_
                  refine cm_getR (b := 56) dX11_together_106 ha zr_X11_42 (by decide) rfl rfl rfl ?_
                  cases hb : (tgk s n).2 with
                  | false =>
                    obtain ⟨m56, hm56, hx56⟩ := hI3.2.2.2.2.1.2
                    refine cm_callV (As := [.ref (o + 56)]) (rest := []) (d2 := 1) dX11_together_109 ha (by decide) rfl zz_clX8 zc_X11_199 zs_X8_isEndOf rfl rfl (Nat.le_of_ble_eq_true rfl) (Nat.le_of_ble_eq_true rfl) (by decide) (ct_isEndOfR (a := 51) (b := 56) ha (Or.inl rfl) (Or.inr rfl) xu_s hsz24 hx56 hm56) (fun r h1 hq => ?_)
                    obtain ⟨rfl, cb, rfl⟩ := hq
                    have t2f : (tgk s (n + 1)).2 = false := by rw [t2e, hb, Bool.false_and]
                    refine mn_ifB_ne (tgt := 117) dX11_together_112 (by decide) (fun c112 => ?_) (fun c112 => ?_)
                    · refine mn_sub [4, 1, 5, 6] rfl ?_
                      have j := j117 _ Y3 rl2 ST2 _ hI3 (fun z => by rw [t2f] at z; cases z) ha hf
                      rw [t2f] at j
                      exact j
                    · refine mm_iconst (v := nI 0) dX11_together_115 (by decide) ?_
                      refine mm_istore_n (L' := [(1, .int (nI (0))), (6, .ref (o + 51)), (2, .int (nI (Bool.toNat ((tgk s (n + 1)).1)))), (5, .int (pfA (aR s n).length)), (4, .ref (o + (61 + 10 * n))), (3, .int (nI (n))), (0, .ref (o + 0))]) dX11_together_116 rfl (by decide) rfl ?_
                      refine mn_sub [5, 2, 0, 6] rfl ?_
                      have j := j117 _ Y3 rl2 ST2 _ hI3 (fun z => by rw [t2f] at z; cases z) ha hf
                      rw [t2f] at j
                      exact j
                  | true =>
                    obtain ⟨q1, q2, q3⟩ := hfl (by omega) hb
                    have b1 := a_tb hW hn6 hy (Nat.le_refl (aSz s n))
                    have hz0 : aSz s 0 ≤ 24 := (hW.2.1 0 (by decide)).1.2
                    have b0 : (tgE s 0).1 < 2 ^ 63 ∧ (tgE s 0).2 < 2 ^ 63 := tgE_b hW hb (by omega)
                    have g1 : (xu X2 51 4 (nI (aSz s n))) 56 4 = nI (aSz s 0) := (xu_a (by decide)).trans ((hfrm 56 4 (by omega) (by omega)).1.trans q1)
                    have g2 : Y3 57 (aSz s 0) = lN (tgE s 0).1 := (hfy 57 _ (by omega)).trans ((hfrm 57 _ (by omega) (by omega)).2.trans q2)
                    have g3 : Y3 58 (aSz s 0) = lN (tgE s 0).2 := (hfy 58 _ (by omega)).trans ((hfrm 58 _ (by omega) (by omega)).2.trans q3)
                    refine cm_callVr (As := [.ref (o + 56)]) (rest := []) (d2 := 1) dX11_together_109 ha (by decide) rfl zz_clX8 zc_X11_199 zs_X8_isEndOf rfl rfl (Nat.le_of_ble_eq_true rfl) (Nat.le_of_ble_eq_true rfl) (by decide) (ct_isEndOf (a := 51) (b := 56) (n := aSz s n) (m := aSz s 0) (u := (aT s n y (aSz s n)).1) (d := (aT s n y (aSz s n)).2) (c := (tgE s 0).1) (e := (tgE s 0).2) ha (Or.inl rfl) (Or.inr rfl) xu_s hsz24 g1 hz0 (hTT _ (Nat.le_refl _)).1 (hTT _ (Nat.le_refl _)).2 g2 g3 b1.1 b1.2.1 b0.1 b0.2) ?_
                    have heq : ((aT s n y (aSz s n)).1 = (tgE s 0).1 ∧ (aT s n y (aSz s n)).2 = (tgE s 0).2) ↔ tgE s n = tgE s 0 := by rw [htE]; exact ⟨fun z => Prod.ext z.1 z.2, fun z => by rw [z]; exact ⟨rfl, rfl⟩⟩
                    refine mn_ifB_ne (tgt := 117) dX11_together_112 (by decide) (fun c112 => ?_) (fun c112 => ?_)
                    · have t2t : (tgk s (n + 1)).2 = true := by rw [t2e, hb, decide_eq_true (heq.mp (of_decide_eq_true c112))]; rfl
                      refine mn_sub [4, 1, 5, 6] rfl ?_
                      have j := j117 _ Y3 rl2 ST2 _ hI3 (fun _ => ⟨g1, g2, g3⟩) ha hf
                      rw [t2t] at j
                      exact j
                    · refine mm_iconst (v := nI 0) dX11_together_115 (by decide) ?_
                      refine mm_istore_n (L' := [(1, .int (nI (0))), (6, .ref (o + 51)), (2, .int (nI (Bool.toNat ((tgk s (n + 1)).1)))), (5, .int (pfA (aR s n).length)), (4, .ref (o + (61 + 10 * n))), (3, .int (nI (n))), (0, .ref (o + 0))]) dX11_together_116 rfl (by decide) rfl ?_
                      have t2f : (tgk s (n + 1)).2 = false := by rw [t2e, decide_eq_false (fun z => of_decide_eq_false c112 (heq.mpr z)), Bool.and_false]
                      refine mn_sub [5, 2, 0, 6] rfl ?_
                      have j := j117 _ Y3 rl2 ST2 _ hI3 (fun z => by rw [t2f] at z; cases z) ha hf
                      rw [t2f] at j
                      exact j
              · have hn0 : n = 0 := by omega
                refine mm_aload_n dX11_together_79 rfl 5 rfl ?_
                refine cm_getR (b := 56) dX11_together_80 ha zr_X11_42 (by decide) rfl rfl rfl ?_
                refine mm_goto (tgt := 90) dX11_together_83 (by decide) ?_
                refine mm_astore (L' := [(6, .ref (o + 56)), (2, .int (nI (Bool.toNat ((tgk s (n + 1)).1)))), (5, .int (pfA (aR s n).length)), (4, .ref (o + (61 + 10 * n))), (3, .int (nI (n))), (1, .int (nI (Bool.toNat ((tgk s n).2)))), (0, .ref (o + 0))]) dX11_together_90 (by decide) rfl ?_
                refine mm_aload dX11_together_92 0 rfl ?_
                refine mm_aload dX11_together_94 3 rfl ?_
                refine cm_callV (As := [.ref (o + (61 + 10 * n))]) (rest := []) (d2 := 3) dX11_together_96 ha (by decide) rfl zz_clX8 zc_X11_185 zs_X8_fill rfl rfl (Nat.le_of_ble_eq_true rfl) (Nat.le_of_ble_eq_true rfl) (by decide) (ct_fill (a := 56) (v := 61 + 10 * n) (n := aSz s n) (V := aV y) (ua := fun i => aUa s (24 * n + i)) (da := fun i => aDa s (24 * n + i)) ha (Or.inr rfl) hva hvw.1.1 hsz24 (hpv hN y hy) (fun i hi => (hr2.2 i hi).2.1) (fun i hi => (hr2.2 i hi).2.2) (a_sz hW hn6 hy) (a_u1 hW hn6)) (fun r h1 hq => ?_)
                obtain ⟨rfl, Y3, ha, hf', hfy, hTT⟩ := hq
                have hf := hf.tr hf'
                have hI3 := CI_sc (X' := xu X2 56 4 (nI (aSz s n))) hI2 ⟨aSz s n, hsz24, xu_s⟩ (fun b i z => xu_a (by omega)) (fun b i z => hfy b i (by omega))
                have t2e : (tgk s (n + 1)).2 = (tgk s n).2 := by rw [tk3, decide_eq_true hn0, Bool.true_or, Bool.and_true]
                refine mm_iload_n dX11_together_99 rfl 4 rfl ?_
                refine mn_if_le (tgt := 117) dX11_together_100 (by decide) (by omega) (fun c100 => ?_) (fun c100 => ?_)
                · refine mn_sub [4, 1, 5, 6] rfl ?_
                  have j := j117 (xu X2 56 4 (nI (aSz s n))) Y3 rl2 ST2 _ hI3 (fun _ => ?_) ha hf
                  · rw [t2e] at j; exact j
                  · rw [← hn0, htE]; exact ⟨xu_s, (hTT _ (Nat.le_refl _)).1, (hTT _ (Nat.le_refl _)).2⟩
                · omega
            · refine mm_iconst (v := nI 0) dX11_together_70 (by decide) ?_
              have t2f : (tgk s (n + 1)).2 = false := by rw [tk2, decide_eq_false c67, Bool.false_and, Bool.and_false]
              refine mn_top (u := .int (nI (Bool.toNat (tgk s (n + 1)).2))) (congrArg Value.int (by rw [t2f]; rfl)) ?_
              refine mm_istore_n (L' := [(1, .int (nI (Bool.toNat ((tgk s (n + 1)).2)))), (2, .int (nI (Bool.toNat ((tgk s (n + 1)).1)))), (5, .int (pfA (aR s n).length)), (4, .ref (o + (61 + 10 * n))), (3, .int (nI (n))), (0, .ref (o + 0))]) dX11_together_71 rfl (by decide) rfl ?_
              refine mm_goto (tgt := 117) dX11_together_72 (by decide) ?_
              refine mn_sub [4, 1, 0, 5] rfl ?_
              exact j117 X2 Y2 rl2 ST2 _ hI2 (fun z => by rw [t2f] at z; cases z) ha hf
  refine mm_iconst (v := nI 1) dX11_together_0 (by decide) ?_
  refine mm_istore_n (L' := [(1, .int (nI (1))), (0, .ref (o + 0))]) dX11_together_1 rfl (by decide) rfl ?_
  refine mm_iconst (v := nI 0) dX11_together_2 (by decide) ?_
  refine mm_istore_n (L' := [(2, .int (nI (0))), (1, .int (nI (1))), (0, .ref (o + 0))]) dX11_together_3 rfl (by decide) rfl ?_
  refine mm_iconst (v := nI 0) dX11_together_4 (by decide) ?_
  refine mm_istore_n (L' := [(3, .int (nI (0))), (2, .int (nI (0))), (1, .int (nI (1))), (0, .ref (o + 0))]) dX11_together_5 rfl (by decide) rfl ?_
  refine mn_sub [0, 1, 2, 3] rfl ?_
  exact lp (aNv s) 0 X Y rl ST h (by omega) hI (fun z => by omega) ha hf
