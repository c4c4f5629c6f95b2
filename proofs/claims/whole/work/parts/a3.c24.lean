/-! the class: voices and their readings -/
set_option maxRecDepth 100000 in
set_option maxHeartbeats 4000000 in
theorem cM_voiceAtN {l : Launch} {D : va_G} {aa : Nat → ClassId} {b0 : Nat} {h : mm_H} {o : Nat} {X : Nat → Nat → Int32} {Y : Nat → Nat → Int64} {rl : Option Nat} {nv : Nat} {v : Int32} (ha : cm_at o X Y rl h) (hnv : X 0 6 = nI nv) (hv : v < 0 ∨ nI nv ≤ v) : mm_V (zz_K l D aa b0) 0 yX11_voiceAt cX11_voiceAt 2 (some (.object "MensuralRows$Voice")) 0 [(0, .ref (o + 0)), (1, .int (v))] [] h 0 0 (fun rv h' => h' = h ∧ rv = some .null) := by
  refine mm_iload_n dX11_voiceAt_0 rfl 1 rfl ?_
  refine mm_if_lt (tgt := 21) dX11_voiceAt_1 (by decide) (fun c1 => ?_) (fun c1 => ?_)
  · refine mm_null dX11_voiceAt_21 ?_
    refine mm_goto (tgt := 31) dX11_voiceAt_22 (by decide) ?_
    exact mm_aretN dX11_voiceAt_31 rfl (Or.inl ⟨_, rfl⟩) (⟨rfl, rfl⟩)
  · refine mm_iload_n dX11_voiceAt_4 rfl 1 rfl ?_
    refine mm_aload_n dX11_voiceAt_5 rfl 0 rfl ?_
    refine cm_getI dX11_voiceAt_6 ha zr_X11_47 (by decide) rfl rfl ?_
    refine mn_top (u := .int (nI (nv))) (congrArg Value.int ((hnv))) ?_
    refine mm_icmp_ge (tgt := 21) dX11_voiceAt_9 (by decide) (fun c9 => ?_) (fun c9 => ?_)
    · refine mm_null dX11_voiceAt_21 ?_
      refine mm_goto (tgt := 31) dX11_voiceAt_22 (by decide) ?_
      exact mm_aretN dX11_voiceAt_31 rfl (Or.inl ⟨_, rfl⟩) (⟨rfl, rfl⟩)
    · exact hv.elim (fun z => absurd z c1) (fun z => absurd z c9)
set_option maxRecDepth 100000 in
set_option maxHeartbeats 4000000 in
theorem cr_sortAtN {l : Launch} {D : va_G} {aa : Nat → ClassId} {b0 : Nat} {h : mm_H} {o : Nat} {X : Nat → Nat → Int32} {Y : Nat → Nat → Int64} {rl : Option Nat} {r sz : Nat} {v : Int32} (ha : cm_at o X Y rl h) (hra : rA r) (hsz : X r 6 = nI sz) (hv : v < 0 ∨ nI sz ≤ v) : mm_V (zz_K l D aa b0) 0 yX6_sortAt cX6_sortAt 2 (some .int) 0 [(0, .ref (o + r)), (1, .int (v))] [] h 0 0 (fun rv h' => h' = h ∧ rv = some (.int (-1))) := by
  refine mm_iload_n dX6_sortAt_0 rfl 1 rfl ?_
  refine mm_if_lt (tgt := 18) dX6_sortAt_1 (by decide) (fun c1 => ?_) (fun c1 => ?_)
  · refine mm_iconst (v := (-1)) dX6_sortAt_18 (by decide) ?_
    refine mm_goto (tgt := 28) dX6_sortAt_19 (by decide) ?_
    exact mm_iret dX6_sortAt_28 rfl (⟨rfl, rfl⟩)
  · refine mm_iload_n dX6_sortAt_4 rfl 1 rfl ?_
    refine mm_aload_n dX6_sortAt_5 rfl 0 rfl ?_
    refine cm_getI dX6_sortAt_6 ha zr_X6_38 (rA_lt hra 0 (by decide)) (rA_0 hra) rfl ?_
    refine mn_top (u := .int (nI (sz))) (congrArg Value.int ((hsz))) ?_
    refine mm_icmp_ge (tgt := 18) dX6_sortAt_9 (by decide) (fun c9 => ?_) (fun c9 => ?_)
    · refine mm_iconst (v := (-1)) dX6_sortAt_18 (by decide) ?_
      refine mm_goto (tgt := 28) dX6_sortAt_19 (by decide) ?_
      exact mm_iret dX6_sortAt_28 rfl (⟨rfl, rfl⟩)
    · exact hv.elim (fun z => absurd z c1) (fun z => absurd z c9)
set_option maxRecDepth 100000 in
set_option maxHeartbeats 4000000 in
theorem cd_formAtN {l : Launch} {D : va_G} {aa : Nat → ClassId} {b0 : Nat} {h : mm_H} {o : Nat} {X : Nat → Nat → Int32} {Y : Nat → Nat → Int64} {rl : Option Nat} {n : Nat} {v : Int32} (ha : cm_at o X Y rl h) (hl : X 25 2 = nI n) (hv : v < 0 ∨ nI n ≤ v) : mm_V (zz_K l D aa b0) 0 yX1_formAt cX1_formAt 2 (some .int) 0 [(0, .ref (o + 25)), (1, .int (v))] [] h 0 0 (fun rv h' => h' = h ∧ rv = some (.int (-1))) := by
  refine mm_iload_n dX1_formAt_0 rfl 1 rfl ?_
  refine mm_if_lt (tgt := 18) dX1_formAt_1 (by decide) (fun c1 => ?_) (fun c1 => ?_)
  · refine mm_iconst (v := (-1)) dX1_formAt_18 (by decide) ?_
    refine mm_goto (tgt := 28) dX1_formAt_19 (by decide) ?_
    exact mm_iret dX1_formAt_28 rfl (⟨rfl, rfl⟩)
  · refine mm_iload_n dX1_formAt_4 rfl 1 rfl ?_
    refine mm_aload_n dX1_formAt_5 rfl 0 rfl ?_
    refine cm_getI dX1_formAt_6 ha zr_X1_18 (by decide) rfl rfl ?_
    refine mn_top (u := .int (nI (n))) (congrArg Value.int ((hl))) ?_
    refine mm_icmp_ge (tgt := 18) dX1_formAt_9 (by decide) (fun c9 => ?_) (fun c9 => ?_)
    · refine mm_iconst (v := (-1)) dX1_formAt_18 (by decide) ?_
      refine mm_goto (tgt := 28) dX1_formAt_19 (by decide) ?_
      exact mm_iret dX1_formAt_28 rfl (⟨rfl, rfl⟩)
    · exact hv.elim (fun z => absurd z c1) (fun z => absurd z c9)
set_option maxRecDepth 100000 in
set_option maxHeartbeats 4000000 in
theorem cw_keptAtN {l : Launch} {D : va_G} {aa : Nat → ClassId} {b0 : Nat} {h : mm_H} {o : Nat} {X : Nat → Nat → Int32} {Y : Nat → Nat → Int64} {rl : Option Nat} {n : Nat} {v : Int32} (ha : cm_at o X Y rl h) (hl : X 35 9 = nI n) (hv : v < 0 ∨ nI n ≤ v) : mm_V (zz_K l D aa b0) 0 yX10_keptAt cX10_keptAt 2 (some .int) 0 [(0, .ref (o + 35)), (1, .int (v))] [] h 0 0 (fun rv h' => h' = h ∧ rv = some (.int (-1))) := by
  refine mm_iload_n dX10_keptAt_0 rfl 1 rfl ?_
  refine mm_if_lt (tgt := 21) dX10_keptAt_1 (by decide) (fun c1 => ?_) (fun c1 => ?_)
  · refine mm_iconst (v := (-1)) dX10_keptAt_21 (by decide) ?_
    refine mm_goto (tgt := 31) dX10_keptAt_22 (by decide) ?_
    exact mm_iret dX10_keptAt_31 rfl (⟨rfl, rfl⟩)
  · refine mm_iload_n dX10_keptAt_4 rfl 1 rfl ?_
    refine mm_aload_n dX10_keptAt_5 rfl 0 rfl ?_
    refine cm_getI dX10_keptAt_6 ha zr_X10_105 (by decide) rfl rfl ?_
    refine mn_top (u := .int (nI (n))) (congrArg Value.int ((hl))) ?_
    refine mm_icmp_ge (tgt := 21) dX10_keptAt_9 (by decide) (fun c9 => ?_) (fun c9 => ?_)
    · refine mm_iconst (v := (-1)) dX10_keptAt_21 (by decide) ?_
      refine mm_goto (tgt := 31) dX10_keptAt_22 (by decide) ?_
      exact mm_iret dX10_keptAt_31 rfl (⟨rfl, rfl⟩)
    · exact hv.elim (fun z => absurd z c1) (fun z => absurd z c9)
set_option maxRecDepth 100000 in
set_option maxHeartbeats 4000000 in
theorem cw_tellN {l : Launch} {D : va_G} {aa : Nat → ClassId} {b0 : Nat} {h : mm_H} {o : Nat} {X : Nat → Nat → Int32} {Y : Nat → Nat → Int64} {rl : Option Nat} {b n : Nat} {v k : Int32} (ha : cm_at o X Y rl h) (hfb : fA b) (hl : X b 7 = nI n) (hv : v < 0 ∨ nI n ≤ v) : mm_V (zz_K l D aa b0) 0 yX2_tell cX2_tell 3 (some .long) 0 [(0, .ref (o + b)), (1, .int (v)), (2, .int (k))] [] h 0 0 (fun rv h' => h' = h ∧ rv = some (.long (-1))) := by
  refine mm_iload_n dX2_tell_0 rfl 1 rfl ?_
  refine mm_if_lt (tgt := 18) dX2_tell_1 (by decide) (fun c1 => ?_) (fun c1 => ?_)
  · refine mm_ldc2 (v := (-1)) dX2_tell_18 zkLong_X2_86 ?_
    exact mm_lret dX2_tell_21 rfl (⟨rfl, rfl⟩)
  · refine mm_iload_n dX2_tell_4 rfl 1 rfl ?_
    refine mm_aload_n dX2_tell_5 rfl 0 rfl ?_
    refine cm_getI dX2_tell_6 ha zr_X2_78 (fA_lt hfb 0 (by decide)) (fA_0 hfb) rfl ?_
    refine mn_top (u := .int (nI (n))) (congrArg Value.int ((hl))) ?_
    refine mm_icmp_ge (tgt := 18) dX2_tell_9 (by decide) (fun c9 => ?_) (fun c9 => ?_)
    · refine mm_ldc2 (v := (-1)) dX2_tell_18 zkLong_X2_86 ?_
      exact mm_lret dX2_tell_21 rfl (⟨rfl, rfl⟩)
    · exact hv.elim (fun z => absurd z c1) (fun z => absurd z c9)
set_option maxRecDepth 100000 in
set_option maxHeartbeats 4000000 in
theorem cM_voiceAt {l : Launch} {D : va_G} {aa : Nat → ClassId} {b0 : Nat} {h : mm_H} {o : Nat} {X : Nat → Nat → Int32} {Y : Nat → Nat → Int64} {rl : Option Nat} {nv n : Nat} (ha : cm_at o X Y rl h) (hnv : X 0 6 = nI nv) (h6 : nv ≤ 6) (hn : n < nv) : mm_V (zz_K l D aa b0) 0 yX11_voiceAt cX11_voiceAt 2 (some (.object "MensuralRows$Voice")) 0 [(0, .ref (o + 0)), (1, .int (nI (n)))] [] h 0 0 (fun rv h' => h' = h ∧ rv = some (.ref (o + (61 + 10 * n)))) := by
  refine mm_iload_n dX11_voiceAt_0 rfl 1 rfl ?_
  refine mn_if_lt (tgt := 21) dX11_voiceAt_1 (by decide) (by omega) ?_
  refine mm_iload_n dX11_voiceAt_4 rfl 1 rfl ?_
  refine mm_aload_n dX11_voiceAt_5 rfl 0 rfl ?_
  refine cm_getI dX11_voiceAt_6 ha zr_X11_47 (by decide) rfl rfl ?_
  refine mn_top (u := .int (nI (nv))) (congrArg Value.int ((hnv))) ?_
  refine mn_icmp_ge (tgt := 21) dX11_voiceAt_9 (by decide) (by omega) (by omega) (fun c9 => ?_) (fun c9 => ?_)
  · omega
  · refine mm_iload_n dX11_voiceAt_12 rfl 1 rfl ?_
    refine mm_aload_n dX11_voiceAt_13 rfl 0 rfl ?_
    refine cm_getR (b := 1) dX11_voiceAt_14 ha zr_X11_11 (by decide) rfl rfl rfl ?_
    refine cm_alenV dX11_voiceAt_17 ha ?_
    refine mn_icmp_lt (tgt := 25) dX11_voiceAt_18 (by decide) (by omega) (by omega) (fun c18 => ?_) (fun c18 => ?_)
    · refine mm_aload_n dX11_voiceAt_25 rfl 0 rfl ?_
      refine cm_getR (b := 1) dX11_voiceAt_26 ha zr_X11_11 (by decide) rfl rfl rfl ?_
      refine mm_iload_n dX11_voiceAt_29 rfl 1 rfl ?_
      refine cm_aaldV (i := n) dX11_voiceAt_30 ha (by omega) ?_
      exact mm_aret dX11_voiceAt_31 rfl (Or.inl ⟨_, rfl⟩) (⟨rfl, rfl⟩)
    · omega
set_option maxRecDepth 100000 in
set_option maxHeartbeats 4000000 in
theorem cw_keptAt {l : Launch} {D : va_G} {aa : Nat → ClassId} {b0 : Nat} {h : mm_H} {o : Nat} {X : Nat → Nat → Int32} {Y : Nat → Nat → Int64} {rl : Option Nat} {n i : Nat} (ha : cm_at o X Y rl h) (hl : X 35 9 = nI n) (h6 : n ≤ 6) (hn : i < n) : mm_V (zz_K l D aa b0) 0 yX10_keptAt cX10_keptAt 2 (some .int) 0 [(0, .ref (o + 35)), (1, .int (nI (i)))] [] h 0 0 (fun rv h' => h' = h ∧ rv = some (.int (X 50 i))) := by
  refine mm_iload_n dX10_keptAt_0 rfl 1 rfl ?_
  refine mn_if_lt (tgt := 21) dX10_keptAt_1 (by decide) (by omega) ?_
  refine mm_iload_n dX10_keptAt_4 rfl 1 rfl ?_
  refine mm_aload_n dX10_keptAt_5 rfl 0 rfl ?_
  refine cm_getI dX10_keptAt_6 ha zr_X10_105 (by decide) rfl rfl ?_
  refine mn_top (u := .int (nI (n))) (congrArg Value.int ((hl))) ?_
  refine mn_icmp_ge (tgt := 21) dX10_keptAt_9 (by decide) (by omega) (by omega) (fun c9 => ?_) (fun c9 => ?_)
  · omega
  · refine mm_iload_n dX10_keptAt_12 rfl 1 rfl ?_
    refine mm_aload_n dX10_keptAt_13 rfl 0 rfl ?_
    refine cm_getR (b := 50) dX10_keptAt_14 ha zr_X10_31 (by decide) rfl rfl rfl ?_
    refine cm_alenI dX10_keptAt_17 ha (by decide) rfl ?_
    refine mn_icmp_lt (tgt := 25) dX10_keptAt_18 (by decide) (by omega) (by omega) (fun c18 => ?_) (fun c18 => ?_)
    · refine mm_aload_n dX10_keptAt_25 rfl 0 rfl ?_
      refine cm_getR (b := 50) dX10_keptAt_26 ha zr_X10_31 (by decide) rfl rfl rfl ?_
      refine mm_iload_n dX10_keptAt_29 rfl 1 rfl ?_
      refine cm_iald (i := i) dX10_keptAt_30 ha (by decide) rfl (by omega) (by decide) ?_
      exact mm_iret dX10_keptAt_31 rfl (⟨rfl, rfl⟩)
    · omega
theorem tot_L {w : ro_w} {sg : Nat} (hk : rk_ w sg (gd_ sg)) : tot_ w sg = if 1000 < (rD w sg).length then 1001 else (rD w sg).length := by
  unfold tot_
  rw [rD_len hk]
theorem tot_lt {w : ro_w} {sg : Nat} : tot_ w sg ≤ 1001 := by
  unfold tot_
  split <;> omega
theorem st_up {ST : Nat → Bool} {v n : Nat} (h : ST v = false) : (if v = n then false else ST v) = false := by
  by_cases e : v = n
  · rw [if_pos e]
  · rw [if_neg e]; exact h
/-- what a reading's number is answered with, if not with a reading -/
def rfA (L : Nat) (r : Int32) : Int32 := if 1000 < L then -4 else if r < 0 ∨ nI L ≤ r then -1 else 0
theorem nI_nn {k : Nat} (h : k < 2 ^ 31) : ¬ nI k < 0 := fun q => by
  rw [Int32.lt_iff_toInt_lt, nI_toInt h] at q
  have : (0 : Int32).toInt = 0 := by decide
  omega
theorem nI_nl {k L : Nat} (h : k < L) (hL : L < 2 ^ 31) : ¬ nI L ≤ nI k := fun q => by
  rw [Int32.le_iff_toInt_le, nI_toInt (by omega), nI_toInt (by omega)] at q
  omega
theorem rfA_0 {L k : Nat} (hL : L ≤ 1000) (hk : k < L) : rfA L (nI k) = 0 := by
  unfold rfA
  rw [if_neg (by omega), if_neg]
  rintro (q | q)
  · exact nI_nn (by omega) q
  · exact nI_nl hk (by omega) q
theorem ite_fm {f g : Nat → Int32} {i n : Nat} {d : Int32} (h : ∀ i, i < n → f i = g i) : (if i < n then f i else d) = if i < n then g i else d := by
  by_cases c : i < n
  · rw [if_pos c, if_pos c, h i c]
  · rw [if_neg c, if_neg c]
theorem i32_nle {x z : Int32} (h : x < z) : ¬ z ≤ x := fun q => by
  rw [Int32.lt_iff_toInt_lt] at h
  rw [Int32.le_iff_toInt_le] at q
  omega
theorem i32_nlt {x z : Int32} (h : ¬ x < z) : z ≤ x := by
  rw [Int32.lt_iff_toInt_lt] at h
  rw [Int32.le_iff_toInt_le]
  omega
set_option maxRecDepth 100000 in
set_option maxHeartbeats 4000000 in
theorem cM_refusalOf {l : Launch} {D : va_G} {aa : Nat → ClassId} {b0 : Nat} {h : mm_H} {o : Nat} {X : Nat → Nat → Int32} {Y : Nat → Nat → Int64} {rl : Option Nat} {s : aS} {ST : Nat → Bool} {n : Nat} {r : Int32} (ha : cm_at o X Y rl h) (hW : WF s) (hI : CI s ST X Y rl) (hn : n < aNv s) : mm_V (zz_K l D aa b0) 5 yX11_refusalOf cX11_refusalOf 3 (some .int) 0 [(0, .ref (o + 0)), (1, .ref (o + (61 + 10 * n))), (2, .int (r))] [] h 0 0 (fun rv h' => rv = some (.int (rfA (aR s n).length r)) ∧ ∃ (X' : Nat → Nat → Int32) (Y' : Nat → Nat → Int64) (rl' : Option Nat) (ST' : Nat → Bool), cm_at o X' Y' rl' h' ∧ cm_fr o h h' ∧ CI s ST' X' Y' rl' ∧ ST' n = false ∧ (∀ v, ST v = false → ST' v = false) ∧ ∀ b i, 50 < b → b < 61 → X' b i = X b i ∧ Y' b i = Y b i) := by
  have hf := cm_fr.rf (o := o) (h := h)
  have hn6 : n < 6 := by have := hW.1.1; omega
  have hva : vA (61 + 10 * n) := Or.inr ⟨n, hn6, rfl⟩
  have hvok := hW.2.1 n hn6
  have hrk := vok_rk hvok
  have hd0 := hvok.2.2.2.2.1
  have hsz24 : aSz s n ≤ 24 := hvok.1.2
  have hL := rD_len hrk
  obtain ⟨hvs, hvw, hr2, hvst, -⟩ := hI.2.1 n hn6
  have hvs := hvs hn
  refine mm_aload_n dX11_refusalOf_0 rfl 1 rfl ?_
  refine mm_ifnonnull (tgt := 7) dX11_refusalOf_1 (by decide) ?_
  have jn : ∀ (X1 : Nat → Nat → Int32) (Y1 : Nat → Nat → Int64) (rl1 : Option Nat) (ST1 : Nat → Bool) (h1 : mm_H), cm_at o X1 Y1 rl1 h1 → cm_fr o h h1 → CI s ST1 X1 Y1 rl1 → ST1 n = false → (∀ v, ST v = false → ST1 v = false) → (∀ b i, 50 < b → b < 61 → X1 b i = X b i ∧ Y1 b i = Y b i) → mm_V (zz_K l D aa b0) 5 yX11_refusalOf cX11_refusalOf 3 (some .int) 22 [(0, .ref (o + 0)), (1, .ref (o + (61 + 10 * n))), (2, .int (r))] [] h1 0 0 (fun rv h' => rv = some (.int (rfA (aR s n).length r)) ∧ ∃ (X' : Nat → Nat → Int32) (Y' : Nat → Nat → Int64) (rl' : Option Nat) (ST' : Nat → Bool), cm_at o X' Y' rl' h' ∧ cm_fr o h h' ∧ CI s ST' X' Y' rl' ∧ ST' n = false ∧ (∀ v, ST v = false → ST' v = false) ∧ ∀ b i, 50 < b → b < 61 → X' b i = X b i ∧ Y' b i = Y b i) := by
    intro X1 Y1 rl1 ST1 h1 ha hf hI1 hST hmo hfrm
    obtain ⟨hvs, hvw, hr2, hvst, -⟩ := hI1.2.1 n hn6
    have hvs := hvs hn
    rw [hST] at hvst
    obtain ⟨hvk, hpv⟩ := hvst.2.2 rfl
    have htt := tot_lt (w := aW s n) (sg := aSg s n)
    have htL := tot_L hrk
    have hLe : (aR s n).length = (rD (aW s n) (aSg s n)).length := rfl
    rw [← hLe] at htL
    refine mm_aload_n dX11_refusalOf_22 rfl 1 rfl ?_
    refine cm_callVr (As := []) (rest := []) (d2 := 0) dX11_refusalOf_23 ha (vA_lt hva 0 (by decide)) (vA_0 hva) zz_clX9 zc_X11_144 zs_X9_isMany rfl rfl (Nat.le_of_ble_eq_true rfl) (Nat.le_of_ble_eq_true rfl) (by decide) (cv_isMany ha hva hvk.2.1 (by omega)) ?_
    refine mn_ifB_eq (tgt := 32) dX11_refusalOf_26 (by decide) (fun c26 => ?_) (fun c26 => ?_)
    · have hfew : ¬ 1000 < (aR s n).length := fun z => by rw [if_pos z] at htL; rw [htL] at c26; exact absurd c26 (by decide)
      rw [if_neg hfew] at htL
      refine mm_iload_n dX11_refusalOf_32 rfl 2 rfl ?_
      refine mm_if_lt (tgt := 44) dX11_refusalOf_33 (by decide) (fun c33 => ?_) (fun c33 => ?_)
      · refine mm_iconst (v := (-1)) dX11_refusalOf_44 (by decide) ?_
        refine mm_goto (tgt := 49) dX11_refusalOf_45 (by decide) ?_
        exact mm_iret dX11_refusalOf_49 rfl (⟨by unfold rfA; rw [if_neg hfew, if_pos (Or.inl c33)], X1, Y1, rl1, ST1, ha, hf, hI1, hST, hmo, hfrm⟩)
      · refine mm_iload_n dX11_refusalOf_36 rfl 2 rfl ?_
        refine mm_aload_n dX11_refusalOf_37 rfl 1 rfl ?_
        refine cm_getI dX11_refusalOf_38 ha zr_X11_148 (vA_lt hva 0 (by decide)) (vA_0 hva) rfl ?_
        refine mn_top (u := .int (nI (tot_ (aW s n) (aSg s n)))) (congrArg Value.int ((hvk.2.1))) ?_
        refine mm_icmp_lt (tgt := 48) dX11_refusalOf_41 (by decide) (fun c41 => ?_) (fun c41 => ?_)
        · refine mm_iconst (v := nI 0) dX11_refusalOf_48 (by decide) ?_
          exact mm_iret dX11_refusalOf_49 rfl (⟨by unfold rfA; rw [if_neg hfew, if_neg (fun z => z.elim c33 (fun q => i32_nle c41 (by rw [htL]; exact q)))]; rfl, X1, Y1, rl1, ST1, ha, hf, hI1, hST, hmo, hfrm⟩)
        · refine mm_iconst (v := (-1)) dX11_refusalOf_44 (by decide) ?_
          refine mm_goto (tgt := 49) dX11_refusalOf_45 (by decide) ?_
          exact mm_iret dX11_refusalOf_49 rfl (⟨by unfold rfA; rw [if_neg hfew, if_pos (Or.inr (by rw [← htL]; exact i32_nlt c41))], X1, Y1, rl1, ST1, ha, hf, hI1, hST, hmo, hfrm⟩)
    · refine mm_bipush (v := (-4)) dX11_refusalOf_29 (by decide) ?_
      exact mm_iret dX11_refusalOf_31 rfl (⟨by unfold rfA; rw [if_pos (Classical.byContradiction (fun z => by rw [if_neg z] at htL; rw [htL] at c26; exact z (of_decide_eq_true c26)))], X1, Y1, rl1, ST1, ha, hf, hI1, hST, hmo, hfrm⟩)
  refine mm_aload_n dX11_refusalOf_7 rfl 1 rfl ?_
  refine cm_getI dX11_refusalOf_8 ha zr_X11_136 (vA_lt hva 0 (by decide)) (vA_0 hva) rfl ?_
  refine mn_top (u := .int (nI (Bool.toNat (ST n)))) (congrArg Value.int ((hvst.1.2))) ?_
  refine mn_ifB_eq (tgt := 22) dX11_refusalOf_11 (by decide) (fun c11 => ?_) (fun c11 => ?_)
  · refine mn_sub [0, 1, 2] rfl ?_
    exact jn X Y rl ST _ ha hf hI c11 (fun _ z => z) (fun _ _ _ _ => ⟨rfl, rfl⟩)
  · refine mm_aload_n dX11_refusalOf_14 rfl 0 rfl ?_
    refine cm_getR (b := 3) dX11_refusalOf_15 ha zr_X11_24 (by decide) rfl rfl rfl ?_
    refine mm_aload_n dX11_refusalOf_18 rfl 1 rfl ?_
    refine cm_callV (As := [.ref (o + (61 + 10 * n))]) (rest := []) (d2 := 4) dX11_refusalOf_19 ha (by decide) rfl zz_clX5 zc_X11_140 zs_X5_read rfl rfl (Nat.le_of_ble_eq_true rfl) (Nat.le_of_ble_eq_true rfl) (by decide) (cR_read (st := true) (w := aW s n) (sg := aSg s n) ha hva hvw hvs (by rw [← c11]; exact hvst.1.2) (fun _ => by rw [hvst.1.1, hvst.2.1 c11]) hrk hd0) (fun r h1 hq => ?_)
    obtain ⟨rfl, X1, Y1, ha, hf', hrd, hY, h8, hu, h7, hor⟩ := hq
    have hf := hf.tr hf'
    have hI1 := CI_rd hW hI hn c11 hrd hY h8 hu (h7 rfl) (hor.imp id (fun ⟨q1, q2, q3⟩ => ⟨q1, q2, q3 rfl⟩))
    refine mn_sub [0, 1, 2] rfl ?_
    exact jn _ _ _ _ _ ha hf hI1 (if_pos rfl) (fun v z => st_up z) (fun b i z1 z2 => ⟨hrd b i (by omega), hY b i (by omega)⟩)
set_option maxRecDepth 100000 in
set_option maxHeartbeats 4000000 in
theorem cM_refusalN {l : Launch} {D : va_G} {aa : Nat → ClassId} {b0 : Nat} {h : mm_H} {o : Nat} {X : Nat → Nat → Int32} {Y : Nat → Nat → Int64} {rl : Option Nat} {r : Int32} (ha : cm_at o X Y rl h) : mm_V (zz_K l D aa b0) 0 yX11_refusalOf cX11_refusalOf 3 (some .int) 0 [(0, .ref (o + 0)), (1, .null), (2, .int (r))] [] h 0 0 (fun rv h' => h' = h ∧ rv = some (.int (-2))) := by
  refine mm_aloadN_n dX11_refusalOf_0 rfl 1 rfl ?_
  refine mm_ifnonnullN dX11_refusalOf_1 ?_
  refine mm_bipush (v := (-2)) dX11_refusalOf_4 (by decide) ?_
  exact mm_iret dX11_refusalOf_6 rfl (⟨rfl, rfl⟩)
set_option maxRecDepth 100000 in
set_option maxHeartbeats 4000000 in
theorem cM_restN {l : Launch} {D : va_G} {aa : Nat → ClassId} {b0 : Nat} {h : mm_H} {o : Nat} {X : Nat → Nat → Int32} {Y : Nat → Nat → Int64} {rl : Option Nat} {s : aS} {ST : Nat → Bool} {v : Int32} {x0 : Int32} (ha : cm_at o X Y rl h) (hW : WF s) (hI : CI s ST X Y rl) (hv : v < 0 ∨ nI (aNv s) ≤ v) : mm_V (zz_K l D aa b0) 1 yX11_rest cX11_rest 4 (some .int) 0 [(0, .ref (o + 0)), (1, .int (v)), (2, .int (x0))] [] h 0 0 (fun rv h' => h' = h ∧ rv = some (.int (-2))) := by
  refine mm_aload_n dX11_rest_0 rfl 0 rfl ?_
  refine mm_iload_n dX11_rest_1 rfl 1 rfl ?_
  refine cm_callVr (As := [.int (v)]) (rest := []) (d2 := 0) dX11_rest_2 ha (by decide) rfl zz_clX11 zc_X11_55 zs_X11_voiceAt rfl rfl (Nat.le_of_ble_eq_true rfl) (Nat.le_of_ble_eq_true rfl) (by decide) (cM_voiceAtN ha hI.1.1 hv) ?_
  refine mm_astoreN_n (L' := [(3, .null), (0, .ref (o + 0)), (1, .int (v)), (2, .int (x0))]) dX11_rest_5 rfl (by decide) rfl ?_
  refine mm_aloadN_n dX11_rest_6 rfl 0 rfl ?_
  refine mm_ifnullN (tgt := 17) dX11_rest_7 (by decide) ?_
  refine mm_bipush (v := (-2)) dX11_rest_17 (by decide) ?_
  exact mm_iret dX11_rest_19 rfl (⟨rfl, rfl⟩)
set_option maxRecDepth 100000 in
set_option maxHeartbeats 4000000 in
theorem cM_dotN {l : Launch} {D : va_G} {aa : Nat → ClassId} {b0 : Nat} {h : mm_H} {o : Nat} {X : Nat → Nat → Int32} {Y : Nat → Nat → Int64} {rl : Option Nat} {s : aS} {ST : Nat → Bool} {v : Int32} (ha : cm_at o X Y rl h) (hW : WF s) (hI : CI s ST X Y rl) (hv : v < 0 ∨ nI (aNv s) ≤ v) : mm_V (zz_K l D aa b0) 1 yX11_dot cX11_dot 4 (some .int) 0 [(0, .ref (o + 0)), (1, .int (v))] [] h 0 0 (fun rv h' => h' = h ∧ rv = some (.int (-2))) := by
  refine mm_aload_n dX11_dot_0 rfl 0 rfl ?_
  refine mm_iload_n dX11_dot_1 rfl 1 rfl ?_
  refine cm_callVr (As := [.int (v)]) (rest := []) (d2 := 0) dX11_dot_2 ha (by decide) rfl zz_clX11 zc_X11_55 zs_X11_voiceAt rfl rfl (Nat.le_of_ble_eq_true rfl) (Nat.le_of_ble_eq_true rfl) (by decide) (cM_voiceAtN ha hI.1.1 hv) ?_
  refine mm_astoreN_n (L' := [(2, .null), (0, .ref (o + 0)), (1, .int (v))]) dX11_dot_5 rfl (by decide) rfl ?_
  refine mm_aloadN_n dX11_dot_6 rfl 0 rfl ?_
  refine mm_ifnonnullN dX11_dot_7 ?_
  refine mm_bipush (v := (-2)) dX11_dot_10 (by decide) ?_
  exact mm_iret dX11_dot_12 rfl (⟨rfl, rfl⟩)
set_option maxRecDepth 100000 in
set_option maxHeartbeats 4000000 in
theorem cM_proportionN {l : Launch} {D : va_G} {aa : Nat → ClassId} {b0 : Nat} {h : mm_H} {o : Nat} {X : Nat → Nat → Int32} {Y : Nat → Nat → Int64} {rl : Option Nat} {s : aS} {ST : Nat → Bool} {v : Int32} {x0 : Int32} {x1 : Int32} (ha : cm_at o X Y rl h) (hW : WF s) (hI : CI s ST X Y rl) (hv : v < 0 ∨ nI (aNv s) ≤ v) : mm_V (zz_K l D aa b0) 1 yX11_proportion cX11_proportion 5 (some .int) 0 [(0, .ref (o + 0)), (1, .int (v)), (2, .int (x0)), (3, .int (x1))] [] h 0 0 (fun rv h' => h' = h ∧ rv = some (.int (-2))) := by
  refine mm_aload_n dX11_proportion_0 rfl 0 rfl ?_
  refine mm_iload_n dX11_proportion_1 rfl 1 rfl ?_
  refine cm_callVr (As := [.int (v)]) (rest := []) (d2 := 0) dX11_proportion_2 ha (by decide) rfl zz_clX11 zc_X11_55 zs_X11_voiceAt rfl rfl (Nat.le_of_ble_eq_true rfl) (Nat.le_of_ble_eq_true rfl) (by decide) (cM_voiceAtN ha hI.1.1 hv) ?_
  refine mm_astoreN (L' := [(4, .null), (0, .ref (o + 0)), (1, .int (v)), (2, .int (x0)), (3, .int (x1))]) dX11_proportion_5 (by decide) rfl ?_
  refine mm_aloadN dX11_proportion_7 0 rfl ?_
  refine mm_ifnullN (tgt := 34) dX11_proportion_9 (by decide) ?_
  refine mm_bipush (v := (-2)) dX11_proportion_34 (by decide) ?_
  exact mm_iret dX11_proportion_36 rfl (⟨rfl, rfl⟩)
set_option maxRecDepth 100000 in
set_option maxHeartbeats 4000000 in
theorem cM_backN {l : Launch} {D : va_G} {aa : Nat → ClassId} {b0 : Nat} {h : mm_H} {o : Nat} {X : Nat → Nat → Int32} {Y : Nat → Nat → Int64} {rl : Option Nat} {s : aS} {ST : Nat → Bool} {v : Int32} (ha : cm_at o X Y rl h) (hW : WF s) (hI : CI s ST X Y rl) (hv : v < 0 ∨ nI (aNv s) ≤ v) : mm_V (zz_K l D aa b0) 1 yX11_back cX11_back 3 (some .int) 0 [(0, .ref (o + 0)), (1, .int (v))] [] h 0 0 (fun rv h' => h' = h ∧ rv = some (.int (-2))) := by
  refine mm_aload_n dX11_back_0 rfl 0 rfl ?_
  refine mm_iload_n dX11_back_1 rfl 1 rfl ?_
  refine cm_callVr (As := [.int (v)]) (rest := []) (d2 := 0) dX11_back_2 ha (by decide) rfl zz_clX11 zc_X11_55 zs_X11_voiceAt rfl rfl (Nat.le_of_ble_eq_true rfl) (Nat.le_of_ble_eq_true rfl) (by decide) (cM_voiceAtN ha hI.1.1 hv) ?_
  refine mm_astoreN_n (L' := [(2, .null), (0, .ref (o + 0)), (1, .int (v))]) dX11_back_5 rfl (by decide) rfl ?_
  refine mm_aloadN_n dX11_back_6 rfl 0 rfl ?_
  refine mm_ifnonnullN dX11_back_7 ?_
  refine mm_bipush (v := (-2)) dX11_back_10 (by decide) ?_
  exact mm_iret dX11_back_12 rfl (⟨rfl, rfl⟩)
set_option maxRecDepth 100000 in
set_option maxHeartbeats 4000000 in
theorem cM_toldN {l : Launch} {D : va_G} {aa : Nat → ClassId} {b0 : Nat} {h : mm_H} {o : Nat} {X : Nat → Nat → Int32} {Y : Nat → Nat → Int64} {rl : Option Nat} {s : aS} {ST : Nat → Bool} {v : Int32} {x0 : Int32} (ha : cm_at o X Y rl h) (hW : WF s) (hI : CI s ST X Y rl) (hv : v < 0 ∨ nI (aNv s) ≤ v) : mm_V (zz_K l D aa b0) 1 yX11_told cX11_told 4 (some .int) 0 [(0, .ref (o + 0)), (1, .int (v)), (2, .int (x0))] [] h 0 0 (fun rv h' => h' = h ∧ rv = some (.int (-2))) := by
  refine mm_aload_n dX11_told_0 rfl 0 rfl ?_
  refine mm_iload_n dX11_told_1 rfl 1 rfl ?_
  refine cm_callVr (As := [.int (v)]) (rest := []) (d2 := 0) dX11_told_2 ha (by decide) rfl zz_clX11 zc_X11_55 zs_X11_voiceAt rfl rfl (Nat.le_of_ble_eq_true rfl) (Nat.le_of_ble_eq_true rfl) (by decide) (cM_voiceAtN ha hI.1.1 hv) ?_
  refine mm_astoreN_n (L' := [(3, .null), (0, .ref (o + 0)), (1, .int (v)), (2, .int (x0))]) dX11_told_5 rfl (by decide) rfl ?_
  refine mm_aloadN_n dX11_told_6 rfl 0 rfl ?_
  refine mm_ifnonnullN dX11_told_7 ?_
  refine mm_bipush (v := (-2)) dX11_told_10 (by decide) ?_
  exact mm_iret dX11_told_12 rfl (⟨rfl, rfl⟩)
set_option maxRecDepth 100000 in
set_option maxHeartbeats 4000000 in
theorem cM_symbolN {l : Launch} {D : va_G} {aa : Nat → ClassId} {b0 : Nat} {h : mm_H} {o : Nat} {X : Nat → Nat → Int32} {Y : Nat → Nat → Int64} {rl : Option Nat} {s : aS} {ST : Nat → Bool} {v : Int32} {x0 : Int32} {x1 : Int32} (ha : cm_at o X Y rl h) (hW : WF s) (hI : CI s ST X Y rl) (hv : v < 0 ∨ nI (aNv s) ≤ v) : mm_V (zz_K l D aa b0) 1 yX11_symbol cX11_symbol 6 (some .int) 0 [(0, .ref (o + 0)), (1, .int (v)), (2, .int (x0)), (3, .int (x1))] [] h 0 0 (fun rv h' => h' = h ∧ rv = some (.int (-2))) := by
  refine mm_aload_n dX11_symbol_0 rfl 0 rfl ?_
  refine mm_iload_n dX11_symbol_1 rfl 1 rfl ?_
  refine cm_callVr (As := [.int (v)]) (rest := []) (d2 := 0) dX11_symbol_2 ha (by decide) rfl zz_clX11 zc_X11_55 zs_X11_voiceAt rfl rfl (Nat.le_of_ble_eq_true rfl) (Nat.le_of_ble_eq_true rfl) (by decide) (cM_voiceAtN ha hI.1.1 hv) ?_
  refine mm_astoreN (L' := [(4, .null), (0, .ref (o + 0)), (1, .int (v)), (2, .int (x0)), (3, .int (x1))]) dX11_symbol_5 (by decide) rfl ?_
  refine mm_aloadN dX11_symbol_7 0 rfl ?_
  refine mm_ifnullN (tgt := 28) dX11_symbol_9 (by decide) ?_
  refine mm_bipush (v := (-2)) dX11_symbol_28 (by decide) ?_
  exact mm_iret dX11_symbol_30 rfl (⟨rfl, rfl⟩)
set_option maxRecDepth 100000 in
set_option maxHeartbeats 4000000 in
theorem cM_readingsN {l : Launch} {D : va_G} {aa : Nat → ClassId} {b0 : Nat} {h : mm_H} {o : Nat} {X : Nat → Nat → Int32} {Y : Nat → Nat → Int64} {rl : Option Nat} {s : aS} {ST : Nat → Bool} {v : Int32} (ha : cm_at o X Y rl h) (hW : WF s) (hI : CI s ST X Y rl) (hv : v < 0 ∨ nI (aNv s) ≤ v) : mm_V (zz_K l D aa b0) 1 yX11_readings cX11_readings 3 (some .int) 0 [(0, .ref (o + 0)), (1, .int (v))] [] h 0 0 (fun rv h' => h' = h ∧ rv = some (.int (-2))) := by
  refine mm_aload_n dX11_readings_0 rfl 0 rfl ?_
  refine mm_iload_n dX11_readings_1 rfl 1 rfl ?_
  refine cm_callVr (As := [.int (v)]) (rest := []) (d2 := 0) dX11_readings_2 ha (by decide) rfl zz_clX11 zc_X11_55 zs_X11_voiceAt rfl rfl (Nat.le_of_ble_eq_true rfl) (Nat.le_of_ble_eq_true rfl) (by decide) (cM_voiceAtN ha hI.1.1 hv) ?_
  refine mm_astoreN_n (L' := [(2, .null), (0, .ref (o + 0)), (1, .int (v))]) dX11_readings_5 rfl (by decide) rfl ?_
  refine mm_aloadN_n dX11_readings_6 rfl 0 rfl ?_
  refine mm_ifnonnullN dX11_readings_7 ?_
  refine mm_bipush (v := (-2)) dX11_readings_10 (by decide) ?_
  exact mm_iret dX11_readings_12 rfl (⟨rfl, rfl⟩)
set_option maxRecDepth 100000 in
set_option maxHeartbeats 4000000 in
theorem cM_stuckN {l : Launch} {D : va_G} {aa : Nat → ClassId} {b0 : Nat} {h : mm_H} {o : Nat} {X : Nat → Nat → Int32} {Y : Nat → Nat → Int64} {rl : Option Nat} {s : aS} {ST : Nat → Bool} {v : Int32} (ha : cm_at o X Y rl h) (hW : WF s) (hI : CI s ST X Y rl) (hv : v < 0 ∨ nI (aNv s) ≤ v) : mm_V (zz_K l D aa b0) 1 yX11_stuck cX11_stuck 3 (some .int) 0 [(0, .ref (o + 0)), (1, .int (v))] [] h 0 0 (fun rv h' => h' = h ∧ rv = some (.int (-2))) := by
  refine mm_aload_n dX11_stuck_0 rfl 0 rfl ?_
  refine mm_iload_n dX11_stuck_1 rfl 1 rfl ?_
  refine cm_callVr (As := [.int (v)]) (rest := []) (d2 := 0) dX11_stuck_2 ha (by decide) rfl zz_clX11 zc_X11_55 zs_X11_voiceAt rfl rfl (Nat.le_of_ble_eq_true rfl) (Nat.le_of_ble_eq_true rfl) (by decide) (cM_voiceAtN ha hI.1.1 hv) ?_
  refine mm_astoreN_n (L' := [(2, .null), (0, .ref (o + 0)), (1, .int (v))]) dX11_stuck_5 rfl (by decide) rfl ?_
  refine mm_aloadN_n dX11_stuck_6 rfl 0 rfl ?_
  refine mm_ifnonnullN dX11_stuck_7 ?_
  refine mm_bipush (v := (-2)) dX11_stuck_10 (by decide) ?_
  exact mm_iret dX11_stuck_12 rfl (⟨rfl, rfl⟩)
set_option maxRecDepth 100000 in
set_option maxHeartbeats 4000000 in
theorem cM_strainedN {l : Launch} {D : va_G} {aa : Nat → ClassId} {b0 : Nat} {h : mm_H} {o : Nat} {X : Nat → Nat → Int32} {Y : Nat → Nat → Int64} {rl : Option Nat} {s : aS} {ST : Nat → Bool} {v : Int32} {x0 : Int32} (ha : cm_at o X Y rl h) (hW : WF s) (hI : CI s ST X Y rl) (hv : v < 0 ∨ nI (aNv s) ≤ v) : mm_V (zz_K l D aa b0) 1 yX11_strained cX11_strained 5 (some .int) 0 [(0, .ref (o + 0)), (1, .int (v)), (2, .int (x0))] [] h 0 0 (fun rv h' => h' = h ∧ rv = some (.int (-2))) := by
  refine mm_aload_n dX11_strained_0 rfl 0 rfl ?_
  refine mm_iload_n dX11_strained_1 rfl 1 rfl ?_
  refine cm_callVr (As := [.int (v)]) (rest := []) (d2 := 0) dX11_strained_2 ha (by decide) rfl zz_clX11 zc_X11_55 zs_X11_voiceAt rfl rfl (Nat.le_of_ble_eq_true rfl) (Nat.le_of_ble_eq_true rfl) (by decide) (cM_voiceAtN ha hI.1.1 hv) ?_
  refine mm_astoreN_n (L' := [(3, .null), (0, .ref (o + 0)), (1, .int (v)), (2, .int (x0))]) dX11_strained_5 rfl (by decide) rfl ?_
  refine mm_aload_n dX11_strained_6 rfl 1 rfl ?_
  refine mm_aloadN_n dX11_strained_7 rfl 0 rfl ?_
  refine mm_iload_n dX11_strained_8 rfl 3 rfl ?_
  refine cm_callVr (As := [.null, .int (x0)]) (rest := []) (d2 := 0) dX11_strained_9 ha (by decide) rfl zz_clX11 zc_X11_154 zs_X11_refusalOf rfl rfl (Nat.le_of_ble_eq_true rfl) (Nat.le_of_ble_eq_true rfl) (by decide) (cM_refusalN ha) ?_
  refine mm_istore (L' := [(4, .int ((-2))), (3, .null), (0, .ref (o + 0)), (1, .int (v)), (2, .int (x0))]) dX11_strained_12 (by decide) rfl ?_
  refine mm_aloadN_n dX11_strained_14 rfl 1 rfl ?_
  refine mm_ifnullN (tgt := 23) dX11_strained_15 (by decide) ?_
  refine mm_iload dX11_strained_23 0 rfl ?_
  exact mm_iret dX11_strained_25 rfl (⟨rfl, rfl⟩)
set_option maxRecDepth 100000 in
set_option maxHeartbeats 4000000 in
theorem cM_formN {l : Launch} {D : va_G} {aa : Nat → ClassId} {b0 : Nat} {h : mm_H} {o : Nat} {X : Nat → Nat → Int32} {Y : Nat → Nat → Int64} {rl : Option Nat} {s : aS} {ST : Nat → Bool} {v : Int32} {x0 : Int32} {x1 : Int32} (ha : cm_at o X Y rl h) (hW : WF s) (hI : CI s ST X Y rl) (hv : v < 0 ∨ nI (aNv s) ≤ v) : mm_V (zz_K l D aa b0) 1 yX11_form cX11_form 6 (some .int) 0 [(0, .ref (o + 0)), (1, .int (v)), (2, .int (x0)), (3, .int (x1))] [] h 0 0 (fun rv h' => h' = h ∧ rv = some (.int (-2))) := by
  refine mm_aload_n dX11_form_0 rfl 0 rfl ?_
  refine mm_iload_n dX11_form_1 rfl 1 rfl ?_
  refine cm_callVr (As := [.int (v)]) (rest := []) (d2 := 0) dX11_form_2 ha (by decide) rfl zz_clX11 zc_X11_55 zs_X11_voiceAt rfl rfl (Nat.le_of_ble_eq_true rfl) (Nat.le_of_ble_eq_true rfl) (by decide) (cM_voiceAtN ha hI.1.1 hv) ?_
  refine mm_astoreN (L' := [(4, .null), (0, .ref (o + 0)), (1, .int (v)), (2, .int (x0)), (3, .int (x1))]) dX11_form_5 (by decide) rfl ?_
  refine mm_aload_n dX11_form_7 rfl 1 rfl ?_
  refine mm_aloadN dX11_form_8 0 rfl ?_
  refine mm_iload_n dX11_form_10 rfl 3 rfl ?_
  refine cm_callVr (As := [.null, .int (x0)]) (rest := []) (d2 := 0) dX11_form_11 ha (by decide) rfl zz_clX11 zc_X11_154 zs_X11_refusalOf rfl rfl (Nat.le_of_ble_eq_true rfl) (Nat.le_of_ble_eq_true rfl) (by decide) (cM_refusalN ha) ?_
  refine mm_istore (L' := [(5, .int ((-2))), (4, .null), (0, .ref (o + 0)), (1, .int (v)), (2, .int (x0)), (3, .int (x1))]) dX11_form_14 (by decide) rfl ?_
  refine mm_aloadN dX11_form_16 1 rfl ?_
  refine mm_ifnullN (tgt := 26) dX11_form_18 (by decide) ?_
  refine mm_iload dX11_form_26 0 rfl ?_
  exact mm_iret dX11_form_28 rfl (⟨rfl, rfl⟩)
set_option maxRecDepth 100000 in
set_option maxHeartbeats 4000000 in
theorem cM_valueN {l : Launch} {D : va_G} {aa : Nat → ClassId} {b0 : Nat} {h : mm_H} {o : Nat} {X : Nat → Nat → Int32} {Y : Nat → Nat → Int64} {rl : Option Nat} {s : aS} {ST : Nat → Bool} {v : Int32} {x0 : Int32} {x1 : Int32} (ha : cm_at o X Y rl h) (hW : WF s) (hI : CI s ST X Y rl) (hv : v < 0 ∨ nI (aNv s) ≤ v) : mm_V (zz_K l D aa b0) 1 yX11_value cX11_value 6 (some .int) 0 [(0, .ref (o + 0)), (1, .int (v)), (2, .int (x0)), (3, .int (x1))] [] h 0 0 (fun rv h' => h' = h ∧ rv = some (.int (-2))) := by
  refine mm_aload_n dX11_value_0 rfl 0 rfl ?_
  refine mm_iload_n dX11_value_1 rfl 1 rfl ?_
  refine cm_callVr (As := [.int (v)]) (rest := []) (d2 := 0) dX11_value_2 ha (by decide) rfl zz_clX11 zc_X11_55 zs_X11_voiceAt rfl rfl (Nat.le_of_ble_eq_true rfl) (Nat.le_of_ble_eq_true rfl) (by decide) (cM_voiceAtN ha hI.1.1 hv) ?_
  refine mm_astoreN (L' := [(4, .null), (0, .ref (o + 0)), (1, .int (v)), (2, .int (x0)), (3, .int (x1))]) dX11_value_5 (by decide) rfl ?_
  refine mm_aload_n dX11_value_7 rfl 1 rfl ?_
  refine mm_aloadN dX11_value_8 0 rfl ?_
  refine mm_iload_n dX11_value_10 rfl 3 rfl ?_
  refine cm_callVr (As := [.null, .int (x0)]) (rest := []) (d2 := 0) dX11_value_11 ha (by decide) rfl zz_clX11 zc_X11_154 zs_X11_refusalOf rfl rfl (Nat.le_of_ble_eq_true rfl) (Nat.le_of_ble_eq_true rfl) (by decide) (cM_refusalN ha) ?_
  refine mm_istore (L' := [(5, .int ((-2))), (4, .null), (0, .ref (o + 0)), (1, .int (v)), (2, .int (x0)), (3, .int (x1))]) dX11_value_14 (by decide) rfl ?_
  refine mm_aloadN dX11_value_16 1 rfl ?_
  refine mm_ifnullN (tgt := 26) dX11_value_18 (by decide) ?_
  refine mm_iload dX11_value_26 0 rfl ?_
  exact mm_iret dX11_value_28 rfl (⟨rfl, rfl⟩)
set_option maxRecDepth 100000 in
set_option maxHeartbeats 4000000 in
theorem cM_pickN {l : Launch} {D : va_G} {aa : Nat → ClassId} {b0 : Nat} {h : mm_H} {o : Nat} {X : Nat → Nat → Int32} {Y : Nat → Nat → Int64} {rl : Option Nat} {s : aS} {ST : Nat → Bool} {v : Int32} {x0 : Int32} (ha : cm_at o X Y rl h) (hW : WF s) (hI : CI s ST X Y rl) (hv : v < 0 ∨ nI (aNv s) ≤ v) : mm_V (zz_K l D aa b0) 1 yX11_pick cX11_pick 6 (some .int) 0 [(0, .ref (o + 0)), (1, .int (v)), (2, .int (x0))] [] h 0 0 (fun rv h' => h' = h ∧ rv = some (.int (-2))) := by
  refine mm_aload_n dX11_pick_0 rfl 0 rfl ?_
  refine mm_iload_n dX11_pick_1 rfl 1 rfl ?_
  refine cm_callVr (As := [.int (v)]) (rest := []) (d2 := 0) dX11_pick_2 ha (by decide) rfl zz_clX11 zc_X11_55 zs_X11_voiceAt rfl rfl (Nat.le_of_ble_eq_true rfl) (Nat.le_of_ble_eq_true rfl) (by decide) (cM_voiceAtN ha hI.1.1 hv) ?_
  refine mm_astoreN_n (L' := [(3, .null), (0, .ref (o + 0)), (1, .int (v)), (2, .int (x0))]) dX11_pick_5 rfl (by decide) rfl ?_
  refine mm_aload_n dX11_pick_6 rfl 1 rfl ?_
  refine mm_aloadN_n dX11_pick_7 rfl 0 rfl ?_
  refine mm_iload_n dX11_pick_8 rfl 3 rfl ?_
  refine cm_callVr (As := [.null, .int (x0)]) (rest := []) (d2 := 0) dX11_pick_9 ha (by decide) rfl zz_clX11 zc_X11_154 zs_X11_refusalOf rfl rfl (Nat.le_of_ble_eq_true rfl) (Nat.le_of_ble_eq_true rfl) (by decide) (cM_refusalN ha) ?_
  refine mm_istore (L' := [(4, .int ((-2))), (3, .null), (0, .ref (o + 0)), (1, .int (v)), (2, .int (x0))]) dX11_pick_12 (by decide) rfl ?_
  refine mm_aloadN_n dX11_pick_14 rfl 1 rfl ?_
  refine mm_ifnullN (tgt := 23) dX11_pick_15 (by decide) ?_
  refine mm_iload dX11_pick_23 0 rfl ?_
  exact mm_iret dX11_pick_25 rfl (⟨rfl, rfl⟩)
set_option maxRecDepth 100000 in
set_option maxHeartbeats 4000000 in
theorem cM_atN {l : Launch} {D : va_G} {aa : Nat → ClassId} {b0 : Nat} {h : mm_H} {o : Nat} {X : Nat → Nat → Int32} {Y : Nat → Nat → Int64} {rl : Option Nat} {s : aS} {ST : Nat → Bool} {v : Int32} {x0 : Int32} {x1 : Int32} (ha : cm_at o X Y rl h) (hW : WF s) (hI : CI s ST X Y rl) (hv : v < 0 ∨ nI (aNv s) ≤ v) : mm_V (zz_K l D aa b0) 1 yX11_at cX11_at 7 (some .int) 0 [(0, .ref (o + 0)), (1, .int (v)), (2, .int (x0)), (3, .int (x1))] [] h 0 0 (fun rv h' => h' = h ∧ rv = some (.int (-2))) := by
  refine mm_aload_n dX11_at_0 rfl 0 rfl ?_
  refine mm_iload_n dX11_at_1 rfl 1 rfl ?_
  refine cm_callVr (As := [.int (v)]) (rest := []) (d2 := 0) dX11_at_2 ha (by decide) rfl zz_clX11 zc_X11_55 zs_X11_voiceAt rfl rfl (Nat.le_of_ble_eq_true rfl) (Nat.le_of_ble_eq_true rfl) (by decide) (cM_voiceAtN ha hI.1.1 hv) ?_
  refine mm_astoreN (L' := [(4, .null), (0, .ref (o + 0)), (1, .int (v)), (2, .int (x0)), (3, .int (x1))]) dX11_at_5 (by decide) rfl ?_
  refine mm_aloadN dX11_at_7 0 rfl ?_
  refine mm_ifnullN (tgt := 21) dX11_at_9 (by decide) ?_
  refine mm_bipush (v := (-2)) dX11_at_21 (by decide) ?_
  exact mm_iret dX11_at_23 rfl (⟨rfl, rfl⟩)
set_option maxRecDepth 100000 in
set_option maxHeartbeats 4000000 in
theorem cM_canonN {l : Launch} {D : va_G} {aa : Nat → ClassId} {b0 : Nat} {h : mm_H} {o : Nat} {X : Nat → Nat → Int32} {Y : Nat → Nat → Int64} {rl : Option Nat} {s : aS} {ST : Nat → Bool} {v : Int32} {x0 : Int32} {x1 : Int32} {x2 : Int32} (ha : cm_at o X Y rl h) (hW : WF s) (hI : CI s ST X Y rl) (hv : v < 0 ∨ nI (aNv s) ≤ v) : mm_V (zz_K l D aa b0) 1 yX11_canon cX11_canon 8 (some .int) 0 [(0, .ref (o + 0)), (1, .int (v)), (2, .int (x0)), (3, .int (x1)), (4, .int (x2))] [] h 0 0 (fun rv h' => h' = h ∧ rv = some (.int (-2))) := by
  refine mm_aload_n dX11_canon_0 rfl 0 rfl ?_
  refine mm_iload_n dX11_canon_1 rfl 1 rfl ?_
  refine cm_callVr (As := [.int (v)]) (rest := []) (d2 := 0) dX11_canon_2 ha (by decide) rfl zz_clX11 zc_X11_55 zs_X11_voiceAt rfl rfl (Nat.le_of_ble_eq_true rfl) (Nat.le_of_ble_eq_true rfl) (by decide) (cM_voiceAtN ha hI.1.1 hv) ?_
  refine mm_astoreN (L' := [(5, .null), (0, .ref (o + 0)), (1, .int (v)), (2, .int (x0)), (3, .int (x1)), (4, .int (x2))]) dX11_canon_5 (by decide) rfl ?_
  refine mm_aloadN dX11_canon_7 0 rfl ?_
  refine mm_ifnullN (tgt := 40) dX11_canon_9 (by decide) ?_
  refine mm_bipush (v := (-2)) dX11_canon_40 (by decide) ?_
  exact mm_iret dX11_canon_42 rfl (⟨rfl, rfl⟩)
set_option maxRecDepth 100000 in
set_option maxHeartbeats 4000000 in
theorem cM_noteN {l : Launch} {D : va_G} {aa : Nat → ClassId} {b0 : Nat} {h : mm_H} {o : Nat} {X : Nat → Nat → Int32} {Y : Nat → Nat → Int64} {rl : Option Nat} {s : aS} {ST : Nat → Bool} {v : Int32} {x0 : Int32} {x1 : Int32} {x2 : Bool} (ha : cm_at o X Y rl h) (hW : WF s) (hI : CI s ST X Y rl) (hv : v < 0 ∨ nI (aNv s) ≤ v) : mm_V (zz_K l D aa b0) 1 yX11_note cX11_note 6 (some .int) 0 [(0, .ref (o + 0)), (1, .int (v)), (2, .int (x0)), (3, .int (x1)), (4, .int (nI (Bool.toNat (x2))))] [] h 0 0 (fun rv h' => h' = h ∧ rv = some (.int (-2))) := by
  refine mm_aload_n dX11_note_0 rfl 0 rfl ?_
  refine mm_iload_n dX11_note_1 rfl 1 rfl ?_
  refine cm_callVr (As := [.int (v)]) (rest := []) (d2 := 0) dX11_note_2 ha (by decide) rfl zz_clX11 zc_X11_55 zs_X11_voiceAt rfl rfl (Nat.le_of_ble_eq_true rfl) (Nat.le_of_ble_eq_true rfl) (by decide) (cM_voiceAtN ha hI.1.1 hv) ?_
  refine mm_astoreN (L' := [(5, .null), (0, .ref (o + 0)), (1, .int (v)), (2, .int (x0)), (3, .int (x1)), (4, .int (nI (Bool.toNat (x2))))]) dX11_note_5 (by decide) rfl ?_
  refine mm_aloadN dX11_note_7 0 rfl ?_
  refine mm_ifnullN (tgt := 26) dX11_note_9 (by decide) ?_
  refine mm_bipush (v := (-2)) dX11_note_26 (by decide) ?_
  exact mm_iret dX11_note_28 rfl (⟨rfl, rfl⟩)
set_option maxRecDepth 100000 in
set_option maxHeartbeats 4000000 in
theorem cM_ligatureN {l : Launch} {D : va_G} {aa : Nat → ClassId} {b0 : Nat} {h : mm_H} {o : Nat} {X : Nat → Nat → Int32} {Y : Nat → Nat → Int64} {rl : Option Nat} {s : aS} {ST : Nat → Bool} {v : Int32} {x0 : Int32} {x1 : Int32} {x2 : Int64} (ha : cm_at o X Y rl h) (hW : WF s) (hI : CI s ST X Y rl) (hv : v < 0 ∨ nI (aNv s) ≤ v) : mm_V (zz_K l D aa b0) 1 yX11_ligature cX11_ligature 9 (some .int) 0 [(0, .ref (o + 0)), (1, .int (v)), (2, .int (x0)), (3, .int (x1)), (4, .long (x2))] [] h 0 0 (fun rv h' => h' = h ∧ rv = some (.int (-2))) := by
  refine mm_aload_n dX11_ligature_0 rfl 0 rfl ?_
  refine mm_iload_n dX11_ligature_1 rfl 1 rfl ?_
  refine cm_callVr (As := [.int (v)]) (rest := []) (d2 := 0) dX11_ligature_2 ha (by decide) rfl zz_clX11 zc_X11_55 zs_X11_voiceAt rfl rfl (Nat.le_of_ble_eq_true rfl) (Nat.le_of_ble_eq_true rfl) (by decide) (cM_voiceAtN ha hI.1.1 hv) ?_
  refine mm_astoreN (L' := [(6, .null), (0, .ref (o + 0)), (1, .int (v)), (2, .int (x0)), (3, .int (x1)), (4, .long (x2))]) dX11_ligature_5 (by decide) rfl ?_
  refine mm_aloadN dX11_ligature_7 0 rfl ?_
  refine mm_ifnullN (tgt := 42) dX11_ligature_9 (by decide) ?_
  refine mm_bipush (v := (-2)) dX11_ligature_42 (by decide) ?_
  exact mm_iret dX11_ligature_44 rfl (⟨rfl, rfl⟩)
set_option maxRecDepth 100000 in
set_option maxHeartbeats 4000000 in
theorem cM_timeN {l : Launch} {D : va_G} {aa : Nat → ClassId} {b0 : Nat} {h : mm_H} {o : Nat} {X : Nat → Nat → Int32} {Y : Nat → Nat → Int64} {rl : Option Nat} {s : aS} {ST : Nat → Bool} {v : Int32} {x0 : Int32} {x1 : Int32} (ha : cm_at o X Y rl h) (hW : WF s) (hI : CI s ST X Y rl) (hv : v < 0 ∨ nI (aNv s) ≤ v) : mm_V (zz_K l D aa b0) 1 yX11_time cX11_time 6 (some .long) 0 [(0, .ref (o + 0)), (1, .int (v)), (2, .int (x0)), (3, .int (x1))] [] h 0 0 (fun rv h' => h' = h ∧ rv = some (.long (-2))) := by
  refine mm_aload_n dX11_time_0 rfl 0 rfl ?_
  refine mm_iload_n dX11_time_1 rfl 1 rfl ?_
  refine cm_callVr (As := [.int (v)]) (rest := []) (d2 := 0) dX11_time_2 ha (by decide) rfl zz_clX11 zc_X11_55 zs_X11_voiceAt rfl rfl (Nat.le_of_ble_eq_true rfl) (Nat.le_of_ble_eq_true rfl) (by decide) (cM_voiceAtN ha hI.1.1 hv) ?_
  refine mm_astoreN (L' := [(4, .null), (0, .ref (o + 0)), (1, .int (v)), (2, .int (x0)), (3, .int (x1))]) dX11_time_5 (by decide) rfl ?_
  refine mm_aloadN dX11_time_7 0 rfl ?_
  refine mm_ifnullN (tgt := 21) dX11_time_9 (by decide) ?_
  refine mm_ldc2 (v := (-2)) dX11_time_21 zkLong_X11_181 ?_
  exact mm_lret dX11_time_24 rfl (⟨rfl, rfl⟩)
set_option maxRecDepth 100000 in
set_option maxHeartbeats 4000000 in
theorem cM_readings {l : Launch} {D : va_G} {aa : Nat → ClassId} {b0 : Nat} {h : mm_H} {o : Nat} {X : Nat → Nat → Int32} {Y : Nat → Nat → Int64} {rl : Option Nat} {s : aS} {ST : Nat → Bool} {n : Nat} (ha : cm_at o X Y rl h) (hW : WF s) (hI : CI s ST X Y rl) (hn : n < aNv s) : mm_V (zz_K l D aa b0) 5 yX11_readings cX11_readings 3 (some .int) 0 [(0, .ref (o + 0)), (1, .int (nI (n)))] [] h 0 0 (fun rv h' => rv = some (.int (if 1000 < (aR s n).length then (-4) else nI (aR s n).length)) ∧ ∃ (X' : Nat → Nat → Int32) (Y' : Nat → Nat → Int64) (rl' : Option Nat) (ST' : Nat → Bool), cm_at o X' Y' rl' h' ∧ cm_fr o h h' ∧ CI s ST' X' Y' rl') := by
  have hf := cm_fr.rf (o := o) (h := h)
  have hn6 : n < 6 := by have := hW.1.1; omega
  have hva : vA (61 + 10 * n) := Or.inr ⟨n, hn6, rfl⟩
  have hvok := hW.2.1 n hn6
  have hrk := vok_rk hvok
  have hd0 := hvok.2.2.2.2.1
  have hsz24 : aSz s n ≤ 24 := hvok.1.2
  have hL := rD_len hrk
  obtain ⟨hvs, hvw, hr2, hvst, -⟩ := hI.2.1 n hn6
  have hvs := hvs hn
  refine mm_aload_n dX11_readings_0 rfl 0 rfl ?_
  refine mm_iload_n dX11_readings_1 rfl 1 rfl ?_
  refine cm_callVr (As := [.int (nI (n))]) (rest := []) (d2 := 0) dX11_readings_2 ha (by decide) rfl zz_clX11 zc_X11_55 zs_X11_voiceAt rfl rfl (Nat.le_of_ble_eq_true rfl) (Nat.le_of_ble_eq_true rfl) (by decide) (cM_voiceAt ha hI.1.1 hW.1.1 hn) ?_
  refine mm_astore_n (L' := [(2, .ref (o + (61 + 10 * n))), (0, .ref (o + 0)), (1, .int (nI (n)))]) dX11_readings_5 rfl (by decide) rfl ?_
  refine mm_aload_n dX11_readings_6 rfl 0 rfl ?_
  refine mm_ifnonnull (tgt := 13) dX11_readings_7 (by decide) ?_
  have jn : ∀ (X1 : Nat → Nat → Int32) (Y1 : Nat → Nat → Int64) (rl1 : Option Nat) (ST1 : Nat → Bool) (h1 : mm_H), cm_at o X1 Y1 rl1 h1 → cm_fr o h h1 → CI s ST1 X1 Y1 rl1 → ST1 n = false → mm_V (zz_K l D aa b0) 5 yX11_readings cX11_readings 3 (some .int) 28 [(2, .ref (o + (61 + 10 * n))), (0, .ref (o + 0)), (1, .int (nI (n)))] [] h1 0 0 (fun rv h' => rv = some (.int (if 1000 < (aR s n).length then (-4) else nI (aR s n).length)) ∧ ∃ (X' : Nat → Nat → Int32) (Y' : Nat → Nat → Int64) (rl' : Option Nat) (ST' : Nat → Bool), cm_at o X' Y' rl' h' ∧ cm_fr o h h' ∧ CI s ST' X' Y' rl') := by
    intro X1 Y1 rl1 ST1 h1 ha hf hI1 hST
    obtain ⟨hvs, hvw, hr2, hvst, -⟩ := hI1.2.1 n hn6
    have hvs := hvs hn
    rw [hST] at hvst
    obtain ⟨hvk, hpv⟩ := hvst.2.2 rfl
    have htt := tot_lt (w := aW s n) (sg := aSg s n)
    have htL : tot_ (aW s n) (aSg s n) = if 1000 < (aR s n).length then 1001 else (aR s n).length := tot_L hrk
    refine mm_aload_n dX11_readings_28 rfl 0 rfl ?_
    refine cm_callVr (As := []) (rest := []) (d2 := 0) dX11_readings_29 ha (vA_lt hva 0 (by decide)) (vA_0 hva) zz_clX9 zc_X11_144 zs_X9_isMany rfl rfl (Nat.le_of_ble_eq_true rfl) (Nat.le_of_ble_eq_true rfl) (by decide) (cv_isMany ha hva hvk.2.1 (by omega)) ?_
    refine mn_ifB_eq (tgt := 40) dX11_readings_32 (by decide) (fun c32 => ?_) (fun c32 => ?_)
    · have hfew : ¬ 1000 < (aR s n).length := fun z => by rw [if_pos z] at htL; rw [htL] at c32; exact absurd c32 (by decide)
      rw [if_neg hfew] at htL
      refine mm_aload_n dX11_readings_40 rfl 0 rfl ?_
      refine cm_getI dX11_readings_41 ha zr_X11_148 (vA_lt hva 0 (by decide)) (vA_0 hva) rfl ?_
      refine mn_top (u := .int (nI (tot_ (aW s n) (aSg s n)))) (congrArg Value.int ((hvk.2.1))) ?_
      exact mm_iret dX11_readings_44 rfl (⟨by rw [if_neg hfew, htL], X1, Y1, rl1, ST1, ha, hf, hI1⟩)
    · have hm : 1000 < (aR s n).length := Classical.byContradiction (fun z => by rw [if_neg z] at htL; rw [htL] at c32; exact z (of_decide_eq_true c32))
      refine mm_bipush (v := (-4)) dX11_readings_35 (by decide) ?_
      refine mm_goto (tgt := 44) dX11_readings_37 (by decide) ?_
      exact mm_iret dX11_readings_44 rfl (⟨by rw [if_pos hm], X1, Y1, rl1, ST1, ha, hf, hI1⟩)
  refine mm_aload_n dX11_readings_13 rfl 0 rfl ?_
  refine cm_getI dX11_readings_14 ha zr_X11_136 (vA_lt hva 0 (by decide)) (vA_0 hva) rfl ?_
  refine mn_top (u := .int (nI (Bool.toNat (ST n)))) (congrArg Value.int ((hvst.1.2))) ?_
  refine mn_ifB_eq (tgt := 28) dX11_readings_17 (by decide) (fun c17 => ?_) (fun c17 => ?_)
  · refine mn_sub [0, 1, 2] rfl ?_
    exact jn X Y rl ST _ ha hf hI c17
  · refine mm_aload_n dX11_readings_20 rfl 1 rfl ?_
    refine cm_getR (b := 3) dX11_readings_21 ha zr_X11_24 (by decide) rfl rfl rfl ?_
    refine mm_aload_n dX11_readings_24 rfl 0 rfl ?_
    refine cm_callV (As := [.ref (o + (61 + 10 * n))]) (rest := []) (d2 := 4) dX11_readings_25 ha (by decide) rfl zz_clX5 zc_X11_140 zs_X5_read rfl rfl (Nat.le_of_ble_eq_true rfl) (Nat.le_of_ble_eq_true rfl) (by decide) (cR_read (st := true) (w := aW s n) (sg := aSg s n) ha hva hvw hvs (by rw [← c17]; exact hvst.1.2) (fun _ => by rw [hvst.1.1, hvst.2.1 c17]) hrk hd0) (fun r h1 hq => ?_)
    obtain ⟨rfl, X1, Y1, ha, hf', hrd, hY, h8, hu, h7, hor⟩ := hq
    have hf := hf.tr hf'
    have hI1 := CI_rd hW hI hn c17 hrd hY h8 hu (h7 rfl) (hor.imp id (fun ⟨q1, q2, q3⟩ => ⟨q1, q2, q3 rfl⟩))
    refine mn_sub [0, 1, 2] rfl ?_
    exact jn _ _ _ _ _ ha hf hI1 (if_pos rfl)
theorem fu_lt {w : ro_w} {sg u : Nat} (h : fu_ w sg u) : u < 27 := by
  obtain ⟨IE, -, h2, h3⟩ := h
  rw [h3]
  exact (Nat.log2_lt (by have := rh_ne (IE := IE) (n := w.1); omega)).mpr (rh_lt h2 _)
set_option maxRecDepth 100000 in
set_option maxHeartbeats 4000000 in
theorem cM_stuck {l : Launch} {D : va_G} {aa : Nat → ClassId} {b0 : Nat} {h : mm_H} {o : Nat} {X : Nat → Nat → Int32} {Y : Nat → Nat → Int64} {rl : Option Nat} {s : aS} {ST : Nat → Bool} {n : Nat} (ha : cm_at o X Y rl h) (hW : WF s) (hI : CI s ST X Y rl) (hn : n < aNv s) : mm_V (zz_K l D aa b0) 5 yX11_stuck cX11_stuck 3 (some .int) 0 [(0, .ref (o + 0)), (1, .int (nI (n)))] [] h 0 0 (fun rv h' => (∃ u, fu_ (aW s n) (aSg s n) u ∧ rv = some (.int (if u = aSz s n then (-1) else nI u))) ∧ ∃ (X' : Nat → Nat → Int32) (Y' : Nat → Nat → Int64) (rl' : Option Nat) (ST' : Nat → Bool), cm_at o X' Y' rl' h' ∧ cm_fr o h h' ∧ CI s ST' X' Y' rl') := by
  have hf := cm_fr.rf (o := o) (h := h)
  have hn6 : n < 6 := by have := hW.1.1; omega
  have hva : vA (61 + 10 * n) := Or.inr ⟨n, hn6, rfl⟩
  have hvok := hW.2.1 n hn6
  have hrk := vok_rk hvok
  have hd0 := hvok.2.2.2.2.1
  have hsz24 : aSz s n ≤ 24 := hvok.1.2
  have hL := rD_len hrk
  obtain ⟨hvs, hvw, hr2, hvst, -⟩ := hI.2.1 n hn6
  have hvs := hvs hn
  refine mm_aload_n dX11_stuck_0 rfl 0 rfl ?_
  refine mm_iload_n dX11_stuck_1 rfl 1 rfl ?_
  refine cm_callVr (As := [.int (nI (n))]) (rest := []) (d2 := 0) dX11_stuck_2 ha (by decide) rfl zz_clX11 zc_X11_55 zs_X11_voiceAt rfl rfl (Nat.le_of_ble_eq_true rfl) (Nat.le_of_ble_eq_true rfl) (by decide) (cM_voiceAt ha hI.1.1 hW.1.1 hn) ?_
  refine mm_astore_n (L' := [(2, .ref (o + (61 + 10 * n))), (0, .ref (o + 0)), (1, .int (nI (n)))]) dX11_stuck_5 rfl (by decide) rfl ?_
  refine mm_aload_n dX11_stuck_6 rfl 0 rfl ?_
  refine mm_ifnonnull (tgt := 13) dX11_stuck_7 (by decide) ?_
  have jn : ∀ (X1 : Nat → Nat → Int32) (Y1 : Nat → Nat → Int64) (rl1 : Option Nat) (ST1 : Nat → Bool) (h1 : mm_H), cm_at o X1 Y1 rl1 h1 → cm_fr o h h1 → CI s ST1 X1 Y1 rl1 → ST1 n = false → mm_V (zz_K l D aa b0) 5 yX11_stuck cX11_stuck 3 (some .int) 28 [(2, .ref (o + (61 + 10 * n))), (0, .ref (o + 0)), (1, .int (nI (n)))] [] h1 0 0 (fun rv h' => (∃ u, fu_ (aW s n) (aSg s n) u ∧ rv = some (.int (if u = aSz s n then (-1) else nI u))) ∧ ∃ (X' : Nat → Nat → Int32) (Y' : Nat → Nat → Int64) (rl' : Option Nat) (ST' : Nat → Bool), cm_at o X' Y' rl' h' ∧ cm_fr o h h' ∧ CI s ST' X' Y' rl') := by
    intro X1 Y1 rl1 ST1 h1 ha hf hI1 hST
    obtain ⟨hvs, hvw, hr2, hvst, -⟩ := hI1.2.1 n hn6
    have hvs := hvs hn
    rw [hST] at hvst
    obtain ⟨hvk, hpv⟩ := hvst.2.2 rfl
    obtain ⟨u, hu6, hfu⟩ := hvk.2.2
    have hu27 := fu_lt hfu
    refine mm_aload_n dX11_stuck_28 rfl 0 rfl ?_
    refine cm_getI dX11_stuck_29 ha zr_X11_151 (vA_lt hva 0 (by decide)) (vA_0 hva) rfl ?_
    refine mn_top (u := .int (nI (u))) (congrArg Value.int ((hu6))) ?_
    refine mm_aload_n dX11_stuck_32 rfl 0 rfl ?_
    refine cm_getR (b := 61 + 10 * n + 3) dX11_stuck_33 ha zr_X11_70 (vA_lt hva 0 (by decide)) (vA_0 hva) rfl rfl ?_
    refine cm_getI dX11_stuck_36 ha zr_X11_74 (vA_lt hva 3 (by decide)) (vA_3 hva) rfl ?_
    refine mn_top (u := .int (nI (aSz s n))) (congrArg Value.int ((hvw.1.1))) ?_
    refine mn_icmp_ne (tgt := 46) dX11_stuck_39 (by decide) (by omega) (by omega) (fun c39 => ?_) (fun c39 => ?_)
    · refine mm_aload_n dX11_stuck_46 rfl 0 rfl ?_
      refine cm_getI dX11_stuck_47 ha zr_X11_151 (vA_lt hva 0 (by decide)) (vA_0 hva) rfl ?_
      refine mn_top (u := .int (nI (u))) (congrArg Value.int ((hu6))) ?_
      exact mm_iret dX11_stuck_50 rfl (⟨⟨u, hfu, by rw [if_neg c39]⟩, X1, Y1, rl1, ST1, ha, hf, hI1⟩)
    · refine mm_iconst (v := (-1)) dX11_stuck_42 (by decide) ?_
      refine mm_goto (tgt := 50) dX11_stuck_43 (by decide) ?_
      exact mm_iret dX11_stuck_50 rfl (⟨⟨u, hfu, by rw [if_pos (by omega)]⟩, X1, Y1, rl1, ST1, ha, hf, hI1⟩)
  refine mm_aload_n dX11_stuck_13 rfl 0 rfl ?_
  refine cm_getI dX11_stuck_14 ha zr_X11_136 (vA_lt hva 0 (by decide)) (vA_0 hva) rfl ?_
  refine mn_top (u := .int (nI (Bool.toNat (ST n)))) (congrArg Value.int ((hvst.1.2))) ?_
  refine mn_ifB_eq (tgt := 28) dX11_stuck_17 (by decide) (fun c17 => ?_) (fun c17 => ?_)
  · refine mn_sub [0, 1, 2] rfl ?_
    exact jn X Y rl ST _ ha hf hI c17
  · refine mm_aload_n dX11_stuck_20 rfl 1 rfl ?_
    refine cm_getR (b := 3) dX11_stuck_21 ha zr_X11_24 (by decide) rfl rfl rfl ?_
    refine mm_aload_n dX11_stuck_24 rfl 0 rfl ?_
    refine cm_callV (As := [.ref (o + (61 + 10 * n))]) (rest := []) (d2 := 4) dX11_stuck_25 ha (by decide) rfl zz_clX5 zc_X11_140 zs_X5_read rfl rfl (Nat.le_of_ble_eq_true rfl) (Nat.le_of_ble_eq_true rfl) (by decide) (cR_read (st := true) (w := aW s n) (sg := aSg s n) ha hva hvw hvs (by rw [← c17]; exact hvst.1.2) (fun _ => by rw [hvst.1.1, hvst.2.1 c17]) hrk hd0) (fun r h1 hq => ?_)
    obtain ⟨rfl, X1, Y1, ha, hf', hrd, hY, h8, hu, h7, hor⟩ := hq
    have hf := hf.tr hf'
    have hI1 := CI_rd hW hI hn c17 hrd hY h8 hu (h7 rfl) (hor.imp id (fun ⟨q1, q2, q3⟩ => ⟨q1, q2, q3 rfl⟩))
    refine mn_sub [0, 1, 2] rfl ?_
    exact jn _ _ _ _ _ ha hf hI1 (if_pos rfl)
set_option maxRecDepth 100000 in
set_option maxHeartbeats 4000000 in
theorem cM_strainedR {l : Launch} {D : va_G} {aa : Nat → ClassId} {b0 : Nat} {h : mm_H} {o : Nat} {X : Nat → Nat → Int32} {Y : Nat → Nat → Int64} {rl : Option Nat} {s : aS} {ST : Nat → Bool} {n : Nat} {r : Int32} (ha : cm_at o X Y rl h) (hW : WF s) (hI : CI s ST X Y rl) (hn : n < aNv s) (hr0 : rfA (aR s n).length r ≠ 0) : mm_V (zz_K l D aa b0) 6 yX11_strained cX11_strained 5 (some .int) 0 [(0, .ref (o + 0)), (1, .int (nI (n))), (2, .int (r))] [] h 0 0 (fun rv h' => rv = some (.int (rfA (aR s n).length r)) ∧ ∃ (X' : Nat → Nat → Int32) (Y' : Nat → Nat → Int64) (rl' : Option Nat) (ST' : Nat → Bool), cm_at o X' Y' rl' h' ∧ cm_fr o h h' ∧ CI s ST' X' Y' rl') := by
  have hf := cm_fr.rf (o := o) (h := h)
  have hn6 : n < 6 := by have := hW.1.1; omega
  have hva : vA (61 + 10 * n) := Or.inr ⟨n, hn6, rfl⟩
  have hvok := hW.2.1 n hn6
  have hrk := vok_rk hvok
  have hd0 := hvok.2.2.2.2.1
  have hsz24 : aSz s n ≤ 24 := hvok.1.2
  have hL := rD_len hrk
  obtain ⟨hvs, hvw, hr2, hvst, -⟩ := hI.2.1 n hn6
  have hvs := hvs hn
  refine mm_aload_n dX11_strained_0 rfl 0 rfl ?_
  refine mm_iload_n dX11_strained_1 rfl 1 rfl ?_
  refine cm_callVr (As := [.int (nI (n))]) (rest := []) (d2 := 0) dX11_strained_2 ha (by decide) rfl zz_clX11 zc_X11_55 zs_X11_voiceAt rfl rfl (Nat.le_of_ble_eq_true rfl) (Nat.le_of_ble_eq_true rfl) (by decide) (cM_voiceAt ha hI.1.1 hW.1.1 hn) ?_
  refine mm_astore_n (L' := [(3, .ref (o + (61 + 10 * n))), (0, .ref (o + 0)), (1, .int (nI (n))), (2, .int (r))]) dX11_strained_5 rfl (by decide) rfl ?_
  refine mm_aload_n dX11_strained_6 rfl 1 rfl ?_
  refine mm_aload_n dX11_strained_7 rfl 0 rfl ?_
  refine mm_iload_n dX11_strained_8 rfl 3 rfl ?_
  refine cm_callV (As := [.ref (o + (61 + 10 * n)), .int (r)]) (rest := []) (d2 := 5) dX11_strained_9 ha (by decide) rfl zz_clX11 zc_X11_154 zs_X11_refusalOf rfl rfl (Nat.le_of_ble_eq_true rfl) (Nat.le_of_ble_eq_true rfl) (by decide) (cM_refusalOf ha hW hI hn) (fun r h1 hq => ?_)
  obtain ⟨rfl, X1, Y1, rl1, ST1, ha, hf', hI1, hST, hmo⟩ := hq
  have hf := hf.tr hf'
  obtain ⟨hvs, hvw, hr2, hvst, -⟩ := hI1.2.1 n hn6
  have hvs := hvs hn
  rw [hST] at hvst
  obtain ⟨hvk, hpv⟩ := hvst.2.2 rfl
  refine mm_istore (L' := [(4, .int (rfA (aR s n).length r)), (3, .ref (o + (61 + 10 * n))), (0, .ref (o + 0)), (1, .int (nI (n))), (2, .int (r))]) dX11_strained_12 (by decide) rfl ?_
  refine mm_aload_n dX11_strained_14 rfl 1 rfl ?_
  refine mm_ifnull dX11_strained_15 ?_
  refine mm_iload dX11_strained_18 0 rfl ?_
  refine mm_if_eq (tgt := 26) dX11_strained_20 (by decide) (fun c20 => ?_) (fun c20 => ?_)
  · exact absurd c20 hr0
  · refine mm_iload dX11_strained_23 0 rfl ?_
    exact mm_iret dX11_strained_25 rfl (⟨rfl, X1, Y1, rl1, ST1, ha, hf, hI1⟩)
set_option maxRecDepth 100000 in
set_option maxHeartbeats 4000000 in
theorem cM_formR {l : Launch} {D : va_G} {aa : Nat → ClassId} {b0 : Nat} {h : mm_H} {o : Nat} {X : Nat → Nat → Int32} {Y : Nat → Nat → Int64} {rl : Option Nat} {s : aS} {ST : Nat → Bool} {n : Nat} {r : Int32} {i : Int32} (ha : cm_at o X Y rl h) (hW : WF s) (hI : CI s ST X Y rl) (hn : n < aNv s) (hr0 : rfA (aR s n).length r ≠ 0) : mm_V (zz_K l D aa b0) 6 yX11_form cX11_form 6 (some .int) 0 [(0, .ref (o + 0)), (1, .int (nI (n))), (2, .int (r)), (3, .int (i))] [] h 0 0 (fun rv h' => rv = some (.int (rfA (aR s n).length r)) ∧ ∃ (X' : Nat → Nat → Int32) (Y' : Nat → Nat → Int64) (rl' : Option Nat) (ST' : Nat → Bool), cm_at o X' Y' rl' h' ∧ cm_fr o h h' ∧ CI s ST' X' Y' rl') := by
  have hf := cm_fr.rf (o := o) (h := h)
  have hn6 : n < 6 := by have := hW.1.1; omega
  have hva : vA (61 + 10 * n) := Or.inr ⟨n, hn6, rfl⟩
  have hvok := hW.2.1 n hn6
  have hrk := vok_rk hvok
  have hd0 := hvok.2.2.2.2.1
  have hsz24 : aSz s n ≤ 24 := hvok.1.2
  have hL := rD_len hrk
  obtain ⟨hvs, hvw, hr2, hvst, -⟩ := hI.2.1 n hn6
  have hvs := hvs hn
  refine mm_aload_n dX11_form_0 rfl 0 rfl ?_
  refine mm_iload_n dX11_form_1 rfl 1 rfl ?_
  refine cm_callVr (As := [.int (nI (n))]) (rest := []) (d2 := 0) dX11_form_2 ha (by decide) rfl zz_clX11 zc_X11_55 zs_X11_voiceAt rfl rfl (Nat.le_of_ble_eq_true rfl) (Nat.le_of_ble_eq_true rfl) (by decide) (cM_voiceAt ha hI.1.1 hW.1.1 hn) ?_
  refine mm_astore (L' := [(4, .ref (o + (61 + 10 * n))), (0, .ref (o + 0)), (1, .int (nI (n))), (2, .int (r)), (3, .int (i))]) dX11_form_5 (by decide) rfl ?_
  refine mm_aload_n dX11_form_7 rfl 1 rfl ?_
  refine mm_aload dX11_form_8 0 rfl ?_
  refine mm_iload_n dX11_form_10 rfl 3 rfl ?_
  refine cm_callV (As := [.ref (o + (61 + 10 * n)), .int (r)]) (rest := []) (d2 := 5) dX11_form_11 ha (by decide) rfl zz_clX11 zc_X11_154 zs_X11_refusalOf rfl rfl (Nat.le_of_ble_eq_true rfl) (Nat.le_of_ble_eq_true rfl) (by decide) (cM_refusalOf ha hW hI hn) (fun r h1 hq => ?_)
  obtain ⟨rfl, X1, Y1, rl1, ST1, ha, hf', hI1, hST, hmo⟩ := hq
  have hf := hf.tr hf'
  obtain ⟨hvs, hvw, hr2, hvst, -⟩ := hI1.2.1 n hn6
  have hvs := hvs hn
  rw [hST] at hvst
  obtain ⟨hvk, hpv⟩ := hvst.2.2 rfl
  refine mm_istore (L' := [(5, .int (rfA (aR s n).length r)), (4, .ref (o + (61 + 10 * n))), (0, .ref (o + 0)), (1, .int (nI (n))), (2, .int (r)), (3, .int (i))]) dX11_form_14 (by decide) rfl ?_
  refine mm_aload dX11_form_16 1 rfl ?_
  refine mm_ifnull dX11_form_18 ?_
  refine mm_iload dX11_form_21 0 rfl ?_
  refine mm_if_eq (tgt := 29) dX11_form_23 (by decide) (fun c23 => ?_) (fun c23 => ?_)
  · exact absurd c23 hr0
  · refine mm_iload dX11_form_26 0 rfl ?_
    exact mm_iret dX11_form_28 rfl (⟨rfl, X1, Y1, rl1, ST1, ha, hf, hI1⟩)
set_option maxRecDepth 100000 in
set_option maxHeartbeats 4000000 in
theorem cM_valueR {l : Launch} {D : va_G} {aa : Nat → ClassId} {b0 : Nat} {h : mm_H} {o : Nat} {X : Nat → Nat → Int32} {Y : Nat → Nat → Int64} {rl : Option Nat} {s : aS} {ST : Nat → Bool} {n : Nat} {r : Int32} {i : Int32} (ha : cm_at o X Y rl h) (hW : WF s) (hI : CI s ST X Y rl) (hn : n < aNv s) (hr0 : rfA (aR s n).length r ≠ 0) : mm_V (zz_K l D aa b0) 6 yX11_value cX11_value 6 (some .int) 0 [(0, .ref (o + 0)), (1, .int (nI (n))), (2, .int (r)), (3, .int (i))] [] h 0 0 (fun rv h' => rv = some (.int (rfA (aR s n).length r)) ∧ ∃ (X' : Nat → Nat → Int32) (Y' : Nat → Nat → Int64) (rl' : Option Nat) (ST' : Nat → Bool), cm_at o X' Y' rl' h' ∧ cm_fr o h h' ∧ CI s ST' X' Y' rl') := by
  have hf := cm_fr.rf (o := o) (h := h)
  have hn6 : n < 6 := by have := hW.1.1; omega
  have hva : vA (61 + 10 * n) := Or.inr ⟨n, hn6, rfl⟩
  have hvok := hW.2.1 n hn6
  have hrk := vok_rk hvok
  have hd0 := hvok.2.2.2.2.1
  have hsz24 : aSz s n ≤ 24 := hvok.1.2
  have hL := rD_len hrk
  obtain ⟨hvs, hvw, hr2, hvst, -⟩ := hI.2.1 n hn6
  have hvs := hvs hn
  refine mm_aload_n dX11_value_0 rfl 0 rfl ?_
  refine mm_iload_n dX11_value_1 rfl 1 rfl ?_
  refine cm_callVr (As := [.int (nI (n))]) (rest := []) (d2 := 0) dX11_value_2 ha (by decide) rfl zz_clX11 zc_X11_55 zs_X11_voiceAt rfl rfl (Nat.le_of_ble_eq_true rfl) (Nat.le_of_ble_eq_true rfl) (by decide) (cM_voiceAt ha hI.1.1 hW.1.1 hn) ?_
  refine mm_astore (L' := [(4, .ref (o + (61 + 10 * n))), (0, .ref (o + 0)), (1, .int (nI (n))), (2, .int (r)), (3, .int (i))]) dX11_value_5 (by decide) rfl ?_
  refine mm_aload_n dX11_value_7 rfl 1 rfl ?_
  refine mm_aload dX11_value_8 0 rfl ?_
  refine mm_iload_n dX11_value_10 rfl 3 rfl ?_
  refine cm_callV (As := [.ref (o + (61 + 10 * n)), .int (r)]) (rest := []) (d2 := 5) dX11_value_11 ha (by decide) rfl zz_clX11 zc_X11_154 zs_X11_refusalOf rfl rfl (Nat.le_of_ble_eq_true rfl) (Nat.le_of_ble_eq_true rfl) (by decide) (cM_refusalOf ha hW hI hn) (fun r h1 hq => ?_)
  obtain ⟨rfl, X1, Y1, rl1, ST1, ha, hf', hI1, hST, hmo⟩ := hq
  have hf := hf.tr hf'
  obtain ⟨hvs, hvw, hr2, hvst, -⟩ := hI1.2.1 n hn6
  have hvs := hvs hn
  rw [hST] at hvst
  obtain ⟨hvk, hpv⟩ := hvst.2.2 rfl
  refine mm_istore (L' := [(5, .int (rfA (aR s n).length r)), (4, .ref (o + (61 + 10 * n))), (0, .ref (o + 0)), (1, .int (nI (n))), (2, .int (r)), (3, .int (i))]) dX11_value_14 (by decide) rfl ?_
  refine mm_aload dX11_value_16 1 rfl ?_
  refine mm_ifnull dX11_value_18 ?_
  refine mm_iload dX11_value_21 0 rfl ?_
  refine mm_if_eq (tgt := 29) dX11_value_23 (by decide) (fun c23 => ?_) (fun c23 => ?_)
  · exact absurd c23 hr0
  · refine mm_iload dX11_value_26 0 rfl ?_
    exact mm_iret dX11_value_28 rfl (⟨rfl, X1, Y1, rl1, ST1, ha, hf, hI1⟩)
set_option maxRecDepth 100000 in
set_option maxHeartbeats 4000000 in
theorem cM_pickR {l : Launch} {D : va_G} {aa : Nat → ClassId} {b0 : Nat} {h : mm_H} {o : Nat} {X : Nat → Nat → Int32} {Y : Nat → Nat → Int64} {rl : Option Nat} {s : aS} {ST : Nat → Bool} {n : Nat} {r : Int32} (ha : cm_at o X Y rl h) (hW : WF s) (hI : CI s ST X Y rl) (hn : n < aNv s) (hr0 : rfA (aR s n).length r ≠ 0) : mm_V (zz_K l D aa b0) 6 yX11_pick cX11_pick 6 (some .int) 0 [(0, .ref (o + 0)), (1, .int (nI (n))), (2, .int (r))] [] h 0 0 (fun rv h' => rv = some (.int (rfA (aR s n).length r)) ∧ ∃ (X' : Nat → Nat → Int32) (Y' : Nat → Nat → Int64) (rl' : Option Nat) (ST' : Nat → Bool), cm_at o X' Y' rl' h' ∧ cm_fr o h h' ∧ CI s ST' X' Y' rl') := by
  have hf := cm_fr.rf (o := o) (h := h)
  have hn6 : n < 6 := by have := hW.1.1; omega
  have hva : vA (61 + 10 * n) := Or.inr ⟨n, hn6, rfl⟩
  have hvok := hW.2.1 n hn6
  have hrk := vok_rk hvok
  have hd0 := hvok.2.2.2.2.1
  have hsz24 : aSz s n ≤ 24 := hvok.1.2
  have hL := rD_len hrk
  obtain ⟨hvs, hvw, hr2, hvst, -⟩ := hI.2.1 n hn6
  have hvs := hvs hn
  refine mm_aload_n dX11_pick_0 rfl 0 rfl ?_
  refine mm_iload_n dX11_pick_1 rfl 1 rfl ?_
  refine cm_callVr (As := [.int (nI (n))]) (rest := []) (d2 := 0) dX11_pick_2 ha (by decide) rfl zz_clX11 zc_X11_55 zs_X11_voiceAt rfl rfl (Nat.le_of_ble_eq_true rfl) (Nat.le_of_ble_eq_true rfl) (by decide) (cM_voiceAt ha hI.1.1 hW.1.1 hn) ?_
  refine mm_astore_n (L' := [(3, .ref (o + (61 + 10 * n))), (0, .ref (o + 0)), (1, .int (nI (n))), (2, .int (r))]) dX11_pick_5 rfl (by decide) rfl ?_
  refine mm_aload_n dX11_pick_6 rfl 1 rfl ?_
  refine mm_aload_n dX11_pick_7 rfl 0 rfl ?_
  refine mm_iload_n dX11_pick_8 rfl 3 rfl ?_
  refine cm_callV (As := [.ref (o + (61 + 10 * n)), .int (r)]) (rest := []) (d2 := 5) dX11_pick_9 ha (by decide) rfl zz_clX11 zc_X11_154 zs_X11_refusalOf rfl rfl (Nat.le_of_ble_eq_true rfl) (Nat.le_of_ble_eq_true rfl) (by decide) (cM_refusalOf ha hW hI hn) (fun r h1 hq => ?_)
  obtain ⟨rfl, X1, Y1, rl1, ST1, ha, hf', hI1, hST, hmo⟩ := hq
  have hf := hf.tr hf'
  obtain ⟨hvs, hvw, hr2, hvst, -⟩ := hI1.2.1 n hn6
  have hvs := hvs hn
  rw [hST] at hvst
  obtain ⟨hvk, hpv⟩ := hvst.2.2 rfl
  refine mm_istore (L' := [(4, .int (rfA (aR s n).length r)), (3, .ref (o + (61 + 10 * n))), (0, .ref (o + 0)), (1, .int (nI (n))), (2, .int (r))]) dX11_pick_12 (by decide) rfl ?_
  refine mm_aload_n dX11_pick_14 rfl 1 rfl ?_
  refine mm_ifnull dX11_pick_15 ?_
  refine mm_iload dX11_pick_18 0 rfl ?_
  refine mm_if_eq (tgt := 26) dX11_pick_20 (by decide) (fun c20 => ?_) (fun c20 => ?_)
  · exact absurd c20 hr0
  · refine mm_iload dX11_pick_23 0 rfl ?_
    exact mm_iret dX11_pick_25 rfl (⟨rfl, X1, Y1, rl1, ST1, ha, hf, hI1⟩)
set_option maxRecDepth 100000 in
set_option maxHeartbeats 4000000 in
theorem cM_strained {l : Launch} {D : va_G} {aa : Nat → ClassId} {b0 : Nat} {h : mm_H} {o : Nat} {X : Nat → Nat → Int32} {Y : Nat → Nat → Int64} {rl : Option Nat} {s : aS} {ST : Nat → Bool} {n k : Nat} {y : gR} (ha : cm_at o X Y rl h) (hW : WF s) (hI : CI s ST X Y rl) (hn : n < aNv s) (hN : (aR s n).length ≤ 1000) (hk : k < (aR s n).length) (hy : (aR s n)[k]? = some y) : mm_V (zz_K l D aa b0) 6 yX11_strained cX11_strained 5 (some .int) 0 [(0, .ref (o + 0)), (1, .int (nI (n))), (2, .int (nI (k)))] [] h 0 0 (fun rv h' => rv = some (.int (nI (sn_ y.1))) ∧ ∃ (X' : Nat → Nat → Int32) (Y' : Nat → Nat → Int64) (rl' : Option Nat) (ST' : Nat → Bool), cm_at o X' Y' rl' h' ∧ cm_fr o h h' ∧ CI s ST' X' Y' rl') := by
  have hf := cm_fr.rf (o := o) (h := h)
  have hn6 : n < 6 := by have := hW.1.1; omega
  have hva : vA (61 + 10 * n) := Or.inr ⟨n, hn6, rfl⟩
  have hvok := hW.2.1 n hn6
  have hrk := vok_rk hvok
  have hd0 := hvok.2.2.2.2.1
  have hsz24 : aSz s n ≤ 24 := hvok.1.2
  have hL := rD_len hrk
  obtain ⟨hvs, hvw, hr2, hvst, -⟩ := hI.2.1 n hn6
  have hvs := hvs hn
  refine mm_aload_n dX11_strained_0 rfl 0 rfl ?_
  refine mm_iload_n dX11_strained_1 rfl 1 rfl ?_
  refine cm_callVr (As := [.int (nI (n))]) (rest := []) (d2 := 0) dX11_strained_2 ha (by decide) rfl zz_clX11 zc_X11_55 zs_X11_voiceAt rfl rfl (Nat.le_of_ble_eq_true rfl) (Nat.le_of_ble_eq_true rfl) (by decide) (cM_voiceAt ha hI.1.1 hW.1.1 hn) ?_
  refine mm_astore_n (L' := [(3, .ref (o + (61 + 10 * n))), (0, .ref (o + 0)), (1, .int (nI (n))), (2, .int (nI (k)))]) dX11_strained_5 rfl (by decide) rfl ?_
  refine mm_aload_n dX11_strained_6 rfl 1 rfl ?_
  refine mm_aload_n dX11_strained_7 rfl 0 rfl ?_
  refine mm_iload_n dX11_strained_8 rfl 3 rfl ?_
  refine cm_callV (As := [.ref (o + (61 + 10 * n)), .int (nI (k))]) (rest := []) (d2 := 5) dX11_strained_9 ha (by decide) rfl zz_clX11 zc_X11_154 zs_X11_refusalOf rfl rfl (Nat.le_of_ble_eq_true rfl) (Nat.le_of_ble_eq_true rfl) (by decide) (cM_refusalOf ha hW hI hn) (fun r h1 hq => ?_)
  obtain ⟨rfl, X1, Y1, rl1, ST1, ha, hf', hI1, hST, hmo⟩ := hq
  have hf := hf.tr hf'
  obtain ⟨hvs, hvw, hr2, hvst, -⟩ := hI1.2.1 n hn6
  have hvs := hvs hn
  rw [hST] at hvst
  obtain ⟨hvk, hpv⟩ := hvst.2.2 rfl
  have hLe : (aR s n).length = (rD (aW s n) (aSg s n)).length := rfl
  have hrA : rfA (aR s n).length (nI k) = 0 := rfA_0 hN hk
  rw [hrA]
  refine mm_istore (L' := [(4, .int (nI (0))), (3, .ref (o + (61 + 10 * n))), (0, .ref (o + 0)), (1, .int (nI (n))), (2, .int (nI (k)))]) dX11_strained_12 (by decide) rfl ?_
  refine mm_aload_n dX11_strained_14 rfl 1 rfl ?_
  refine mm_ifnull dX11_strained_15 ?_
  refine mm_iload dX11_strained_18 0 rfl ?_
  refine mn_if_eq (tgt := 26) dX11_strained_20 (by decide) (by omega) (fun c20 => ?_) (fun c20 => ?_)
  · refine mm_aload_n dX11_strained_26 rfl 2 rfl ?_
    refine cm_getR (b := 3) dX11_strained_27 ha zr_X11_24 (by decide) rfl rfl rfl ?_
    refine mm_aload_n dX11_strained_30 rfl 1 rfl ?_
    refine mm_iload_n dX11_strained_31 rfl 4 rfl ?_
    obtain ⟨x, hx, hxy⟩ := rD_sS (show (rD (aW s n) (aSg s n))[k]? = some y from hy)
    refine cm_callV (As := [.ref (o + (61 + 10 * n)), .int (nI (k))]) (rest := []) (d2 := 5) dX11_strained_32 ha (by decide) rfl zz_clX5 zc_X11_158 zs_X5_makeAgain rfl rfl (Nat.le_of_ble_eq_true rfl) (Nat.le_of_ble_eq_true rfl) (by decide) (cR_makeAgain (w := aW s n) (sg := aSg s n) ha hva hvw hvs hvk hrk hd0 (by rw [← hL, ← hLe]; exact hN) (by rw [← hL, ← hLe]; exact hk) hx (fun z => hI1.2.2.2.2.2 n hn6 z hST hN)) (fun r h1 hq => ?_)
    obtain ⟨rfl, X2, Y2, ha, hf', hrd, hY, hvk2, hkn2, hdr⟩ := hq
    have hf := hf.tr hf'
    rw [hxy] at hdr
    have hI2 := CI_mk hW hI1 hn hST hrd hY hvk2 hkn2
    refine mm_aload_n dX11_strained_35 rfl 2 rfl ?_
    refine cm_getR (b := 3) dX11_strained_36 ha zr_X11_24 (by decide) rfl rfl rfl ?_
    refine cm_getR (b := 25) dX11_strained_39 ha zr_X11_162 (by decide) rfl rfl rfl ?_
    refine cm_getI dX11_strained_42 ha zr_X11_166 (by decide) rfl rfl ?_
    refine mn_top (u := .int (nI (sn_ y.1))) (congrArg Value.int ((hdr.1.2.1))) ?_
    exact mm_iret dX11_strained_45 rfl (⟨rfl, X2, Y2, _, ST1, ha, hf, hI2⟩)
  · exact absurd rfl c20
theorem rD_ok {w : ro_w} {sg k : Nat} {y : gR} (hk : rk_ w sg (gd_ sg)) (h : (rD w sg)[k]? = some y) : y.1.length ≤ 48 ∧ y.2.length = w.1 := by
  obtain ⟨x, hx, rfl⟩ := rD_sS h
  have hm : x ∈ Br w sg (gd_ sg) 0 := by
    have := List.mem_of_getElem? hx
    unfold sS srt at this
    rw [List.mem_flatMap] at this
    obtain ⟨_, _, h2⟩ := this
    exact RR_mem (List.mem_filter.mp h2).1
  have hg : gd_ sg ≤ 6 := by have := hk.2.1; omega
  have h1 := Br_ok2' hg 0 (Nat.zero_le _) x hm
  have h2 := (Br_lk hk hm).2.1
  have h3 := hk.1
  exact ⟨by have := h1.2.2.1; omega, h2⟩
set_option maxRecDepth 100000 in
set_option maxHeartbeats 4000000 in
theorem cM_form {l : Launch} {D : va_G} {aa : Nat → ClassId} {b0 : Nat} {h : mm_H} {o : Nat} {X : Nat → Nat → Int32} {Y : Nat → Nat → Int64} {rl : Option Nat} {s : aS} {ST : Nat → Bool} {n k : Nat} {y : gR} {i : Nat} (ha : cm_at o X Y rl h) (hW : WF s) (hI : CI s ST X Y rl) (hn : n < aNv s) (hN : (aR s n).length ≤ 1000) (hk : k < (aR s n).length) (hy : (aR s n)[k]? = some y) (hi : i < 2 ^ 31) : mm_V (zz_K l D aa b0) 6 yX11_form cX11_form 6 (some .int) 0 [(0, .ref (o + 0)), (1, .int (nI (n))), (2, .int (nI (k))), (3, .int (nI (i)))] [] h 0 0 (fun rv h' => rv = some (.int (if i < y.1.length then nI (y.1.getD i 0) else (-1))) ∧ ∃ (X' : Nat → Nat → Int32) (Y' : Nat → Nat → Int64) (rl' : Option Nat) (ST' : Nat → Bool), cm_at o X' Y' rl' h' ∧ cm_fr o h h' ∧ CI s ST' X' Y' rl') := by
  have hf := cm_fr.rf (o := o) (h := h)
  have hn6 : n < 6 := by have := hW.1.1; omega
  have hva : vA (61 + 10 * n) := Or.inr ⟨n, hn6, rfl⟩
  have hvok := hW.2.1 n hn6
  have hrk := vok_rk hvok
  have hd0 := hvok.2.2.2.2.1
  have hsz24 : aSz s n ≤ 24 := hvok.1.2
  have hL := rD_len hrk
  obtain ⟨hvs, hvw, hr2, hvst, -⟩ := hI.2.1 n hn6
  have hvs := hvs hn
  refine mm_aload_n dX11_form_0 rfl 0 rfl ?_
  refine mm_iload_n dX11_form_1 rfl 1 rfl ?_
  refine cm_callVr (As := [.int (nI (n))]) (rest := []) (d2 := 0) dX11_form_2 ha (by decide) rfl zz_clX11 zc_X11_55 zs_X11_voiceAt rfl rfl (Nat.le_of_ble_eq_true rfl) (Nat.le_of_ble_eq_true rfl) (by decide) (cM_voiceAt ha hI.1.1 hW.1.1 hn) ?_
  refine mm_astore (L' := [(4, .ref (o + (61 + 10 * n))), (0, .ref (o + 0)), (1, .int (nI (n))), (2, .int (nI (k))), (3, .int (nI (i)))]) dX11_form_5 (by decide) rfl ?_
  refine mm_aload_n dX11_form_7 rfl 1 rfl ?_
  refine mm_aload dX11_form_8 0 rfl ?_
  refine mm_iload_n dX11_form_10 rfl 3 rfl ?_
  refine cm_callV (As := [.ref (o + (61 + 10 * n)), .int (nI (k))]) (rest := []) (d2 := 5) dX11_form_11 ha (by decide) rfl zz_clX11 zc_X11_154 zs_X11_refusalOf rfl rfl (Nat.le_of_ble_eq_true rfl) (Nat.le_of_ble_eq_true rfl) (by decide) (cM_refusalOf ha hW hI hn) (fun r h1 hq => ?_)
  obtain ⟨rfl, X1, Y1, rl1, ST1, ha, hf', hI1, hST, hmo⟩ := hq
  have hf := hf.tr hf'
  obtain ⟨hvs, hvw, hr2, hvst, -⟩ := hI1.2.1 n hn6
  have hvs := hvs hn
  rw [hST] at hvst
  obtain ⟨hvk, hpv⟩ := hvst.2.2 rfl
  have hLe : (aR s n).length = (rD (aW s n) (aSg s n)).length := rfl
  have hrA : rfA (aR s n).length (nI k) = 0 := rfA_0 hN hk
  rw [hrA]
  refine mm_istore (L' := [(5, .int (nI (0))), (4, .ref (o + (61 + 10 * n))), (0, .ref (o + 0)), (1, .int (nI (n))), (2, .int (nI (k))), (3, .int (nI (i)))]) dX11_form_14 (by decide) rfl ?_
  refine mm_aload dX11_form_16 1 rfl ?_
  refine mm_ifnull dX11_form_18 ?_
  refine mm_iload dX11_form_21 0 rfl ?_
  refine mn_if_eq (tgt := 29) dX11_form_23 (by decide) (by omega) (fun c23 => ?_) (fun c23 => ?_)
  · have hyl := rD_ok hrk hy
    refine mm_aload_n dX11_form_29 rfl 2 rfl ?_
    refine cm_getR (b := 3) dX11_form_30 ha zr_X11_24 (by decide) rfl rfl rfl ?_
    refine mm_aload dX11_form_33 1 rfl ?_
    refine mm_iload_n dX11_form_35 rfl 4 rfl ?_
    obtain ⟨x, hx, hxy⟩ := rD_sS (show (rD (aW s n) (aSg s n))[k]? = some y from hy)
    refine cm_callV (As := [.ref (o + (61 + 10 * n)), .int (nI (k))]) (rest := []) (d2 := 5) dX11_form_36 ha (by decide) rfl zz_clX5 zc_X11_158 zs_X5_makeAgain rfl rfl (Nat.le_of_ble_eq_true rfl) (Nat.le_of_ble_eq_true rfl) (by decide) (cR_makeAgain (w := aW s n) (sg := aSg s n) ha hva hvw hvs hvk hrk hd0 (by rw [← hL, ← hLe]; exact hN) (by rw [← hL, ← hLe]; exact hk) hx (fun z => hI1.2.2.2.2.2 n hn6 z hST hN)) (fun r h1 hq => ?_)
    obtain ⟨rfl, X2, Y2, ha, hf', hrd, hY, hvk2, hkn2, hdr⟩ := hq
    have hf := hf.tr hf'
    rw [hxy] at hdr
    have hI2 := CI_mk hW hI1 hn hST hrd hY hvk2 hkn2
    refine mm_aload_n dX11_form_39 rfl 2 rfl ?_
    refine cm_getR (b := 3) dX11_form_40 ha zr_X11_24 (by decide) rfl rfl rfl ?_
    refine cm_getR (b := 25) dX11_form_43 ha zr_X11_162 (by decide) rfl rfl rfl ?_
    refine mm_iload_n dX11_form_46 rfl 5 rfl ?_
    refine cm_callVr (As := [.int (nI (i))]) (rest := []) (d2 := 0) dX11_form_47 ha (by decide) rfl zz_clX1 zc_X11_171 zs_X1_formAt rfl rfl (Nat.le_of_ble_eq_true rfl) (Nat.le_of_ble_eq_true rfl) (by decide) (cd_formAt ha hdr.1.1 hyl.1 (by omega)) ?_
    refine mn_top (u := .int (if i < y.1.length then nI (y.1.getD i 0) else (-1))) (congrArg Value.int (ite_fm (f := fun i => X2 26 i) (g := fun i => nI (y.1.getD i 0)) hdr.2.1)) ?_
    exact mm_iret dX11_form_50 rfl (⟨rfl, X2, Y2, _, ST1, ha, hf, hI2⟩)
  · exact absurd rfl c23
set_option maxRecDepth 100000 in
set_option maxHeartbeats 4000000 in
theorem cM_formN2 {l : Launch} {D : va_G} {aa : Nat → ClassId} {b0 : Nat} {h : mm_H} {o : Nat} {X : Nat → Nat → Int32} {Y : Nat → Nat → Int64} {rl : Option Nat} {s : aS} {ST : Nat → Bool} {n k : Nat} {y : gR} {i : Int32} (ha : cm_at o X Y rl h) (hW : WF s) (hI : CI s ST X Y rl) (hn : n < aNv s) (hN : (aR s n).length ≤ 1000) (hk : k < (aR s n).length) (hy : (aR s n)[k]? = some y) (hi : i < 0 ∨ nI y.1.length ≤ i) : mm_V (zz_K l D aa b0) 6 yX11_form cX11_form 6 (some .int) 0 [(0, .ref (o + 0)), (1, .int (nI (n))), (2, .int (nI (k))), (3, .int (i))] [] h 0 0 (fun rv h' => rv = some (.int (-1)) ∧ ∃ (X' : Nat → Nat → Int32) (Y' : Nat → Nat → Int64) (rl' : Option Nat) (ST' : Nat → Bool), cm_at o X' Y' rl' h' ∧ cm_fr o h h' ∧ CI s ST' X' Y' rl') := by
  have hf := cm_fr.rf (o := o) (h := h)
  have hn6 : n < 6 := by have := hW.1.1; omega
  have hva : vA (61 + 10 * n) := Or.inr ⟨n, hn6, rfl⟩
  have hvok := hW.2.1 n hn6
  have hrk := vok_rk hvok
  have hd0 := hvok.2.2.2.2.1
  have hsz24 : aSz s n ≤ 24 := hvok.1.2
  have hL := rD_len hrk
  obtain ⟨hvs, hvw, hr2, hvst, -⟩ := hI.2.1 n hn6
  have hvs := hvs hn
  refine mm_aload_n dX11_form_0 rfl 0 rfl ?_
  refine mm_iload_n dX11_form_1 rfl 1 rfl ?_
  refine cm_callVr (As := [.int (nI (n))]) (rest := []) (d2 := 0) dX11_form_2 ha (by decide) rfl zz_clX11 zc_X11_55 zs_X11_voiceAt rfl rfl (Nat.le_of_ble_eq_true rfl) (Nat.le_of_ble_eq_true rfl) (by decide) (cM_voiceAt ha hI.1.1 hW.1.1 hn) ?_
  refine mm_astore (L' := [(4, .ref (o + (61 + 10 * n))), (0, .ref (o + 0)), (1, .int (nI (n))), (2, .int (nI (k))), (3, .int (i))]) dX11_form_5 (by decide) rfl ?_
  refine mm_aload_n dX11_form_7 rfl 1 rfl ?_
  refine mm_aload dX11_form_8 0 rfl ?_
  refine mm_iload_n dX11_form_10 rfl 3 rfl ?_
  refine cm_callV (As := [.ref (o + (61 + 10 * n)), .int (nI (k))]) (rest := []) (d2 := 5) dX11_form_11 ha (by decide) rfl zz_clX11 zc_X11_154 zs_X11_refusalOf rfl rfl (Nat.le_of_ble_eq_true rfl) (Nat.le_of_ble_eq_true rfl) (by decide) (cM_refusalOf ha hW hI hn) (fun r h1 hq => ?_)
  obtain ⟨rfl, X1, Y1, rl1, ST1, ha, hf', hI1, hST, hmo⟩ := hq
  have hf := hf.tr hf'
  obtain ⟨hvs, hvw, hr2, hvst, -⟩ := hI1.2.1 n hn6
  have hvs := hvs hn
  rw [hST] at hvst
  obtain ⟨hvk, hpv⟩ := hvst.2.2 rfl
  have hLe : (aR s n).length = (rD (aW s n) (aSg s n)).length := rfl
  have hrA : rfA (aR s n).length (nI k) = 0 := rfA_0 hN hk
  rw [hrA]
  refine mm_istore (L' := [(5, .int (nI (0))), (4, .ref (o + (61 + 10 * n))), (0, .ref (o + 0)), (1, .int (nI (n))), (2, .int (nI (k))), (3, .int (i))]) dX11_form_14 (by decide) rfl ?_
  refine mm_aload dX11_form_16 1 rfl ?_
  refine mm_ifnull dX11_form_18 ?_
  refine mm_iload dX11_form_21 0 rfl ?_
  refine mn_if_eq (tgt := 29) dX11_form_23 (by decide) (by omega) (fun c23 => ?_) (fun c23 => ?_)
  · refine mm_aload_n dX11_form_29 rfl 2 rfl ?_
    refine cm_getR (b := 3) dX11_form_30 ha zr_X11_24 (by decide) rfl rfl rfl ?_
    refine mm_aload dX11_form_33 1 rfl ?_
    refine mm_iload_n dX11_form_35 rfl 4 rfl ?_
    obtain ⟨x, hx, hxy⟩ := rD_sS (show (rD (aW s n) (aSg s n))[k]? = some y from hy)
    refine cm_callV (As := [.ref (o + (61 + 10 * n)), .int (nI (k))]) (rest := []) (d2 := 5) dX11_form_36 ha (by decide) rfl zz_clX5 zc_X11_158 zs_X5_makeAgain rfl rfl (Nat.le_of_ble_eq_true rfl) (Nat.le_of_ble_eq_true rfl) (by decide) (cR_makeAgain (w := aW s n) (sg := aSg s n) ha hva hvw hvs hvk hrk hd0 (by rw [← hL, ← hLe]; exact hN) (by rw [← hL, ← hLe]; exact hk) hx (fun z => hI1.2.2.2.2.2 n hn6 z hST hN)) (fun r h1 hq => ?_)
    obtain ⟨rfl, X2, Y2, ha, hf', hrd, hY, hvk2, hkn2, hdr⟩ := hq
    have hf := hf.tr hf'
    rw [hxy] at hdr
    have hI2 := CI_mk hW hI1 hn hST hrd hY hvk2 hkn2
    refine mm_aload_n dX11_form_39 rfl 2 rfl ?_
    refine cm_getR (b := 3) dX11_form_40 ha zr_X11_24 (by decide) rfl rfl rfl ?_
    refine cm_getR (b := 25) dX11_form_43 ha zr_X11_162 (by decide) rfl rfl rfl ?_
    refine mm_iload_n dX11_form_46 rfl 5 rfl ?_
    refine cm_callVr (As := [.int (i)]) (rest := []) (d2 := 0) dX11_form_47 ha (by decide) rfl zz_clX1 zc_X11_171 zs_X1_formAt rfl rfl (Nat.le_of_ble_eq_true rfl) (Nat.le_of_ble_eq_true rfl) (by decide) (cd_formAtN ha hdr.1.1 hi) ?_
    exact mm_iret dX11_form_50 rfl (⟨rfl, X2, Y2, _, ST1, ha, hf, hI2⟩)
  · exact absurd rfl c23
set_option maxRecDepth 100000 in
set_option maxHeartbeats 4000000 in
theorem cM_value {l : Launch} {D : va_G} {aa : Nat → ClassId} {b0 : Nat} {h : mm_H} {o : Nat} {X : Nat → Nat → Int32} {Y : Nat → Nat → Int64} {rl : Option Nat} {s : aS} {ST : Nat → Bool} {n k : Nat} {y : gR} {i : Nat} (ha : cm_at o X Y rl h) (hW : WF s) (hI : CI s ST X Y rl) (hn : n < aNv s) (hN : (aR s n).length ≤ 1000) (hk : k < (aR s n).length) (hy : (aR s n)[k]? = some y) (hi : i < aSz s n) : mm_V (zz_K l D aa b0) 6 yX11_value cX11_value 6 (some .int) 0 [(0, .ref (o + 0)), (1, .int (nI (n))), (2, .int (nI (k))), (3, .int (nI (i)))] [] h 0 0 (fun rv h' => rv = some (.int (nI (y.2.getD i 0))) ∧ ∃ (X' : Nat → Nat → Int32) (Y' : Nat → Nat → Int64) (rl' : Option Nat) (ST' : Nat → Bool), cm_at o X' Y' rl' h' ∧ cm_fr o h h' ∧ CI s ST' X' Y' rl') := by
  have hf := cm_fr.rf (o := o) (h := h)
  have hn6 : n < 6 := by have := hW.1.1; omega
  have hva : vA (61 + 10 * n) := Or.inr ⟨n, hn6, rfl⟩
  have hvok := hW.2.1 n hn6
  have hrk := vok_rk hvok
  have hd0 := hvok.2.2.2.2.1
  have hsz24 : aSz s n ≤ 24 := hvok.1.2
  have hL := rD_len hrk
  obtain ⟨hvs, hvw, hr2, hvst, -⟩ := hI.2.1 n hn6
  have hvs := hvs hn
  refine mm_aload_n dX11_value_0 rfl 0 rfl ?_
  refine mm_iload_n dX11_value_1 rfl 1 rfl ?_
  refine cm_callVr (As := [.int (nI (n))]) (rest := []) (d2 := 0) dX11_value_2 ha (by decide) rfl zz_clX11 zc_X11_55 zs_X11_voiceAt rfl rfl (Nat.le_of_ble_eq_true rfl) (Nat.le_of_ble_eq_true rfl) (by decide) (cM_voiceAt ha hI.1.1 hW.1.1 hn) ?_
  refine mm_astore (L' := [(4, .ref (o + (61 + 10 * n))), (0, .ref (o + 0)), (1, .int (nI (n))), (2, .int (nI (k))), (3, .int (nI (i)))]) dX11_value_5 (by decide) rfl ?_
  refine mm_aload_n dX11_value_7 rfl 1 rfl ?_
  refine mm_aload dX11_value_8 0 rfl ?_
  refine mm_iload_n dX11_value_10 rfl 3 rfl ?_
  refine cm_callV (As := [.ref (o + (61 + 10 * n)), .int (nI (k))]) (rest := []) (d2 := 5) dX11_value_11 ha (by decide) rfl zz_clX11 zc_X11_154 zs_X11_refusalOf rfl rfl (Nat.le_of_ble_eq_true rfl) (Nat.le_of_ble_eq_true rfl) (by decide) (cM_refusalOf ha hW hI hn) (fun r h1 hq => ?_)
  obtain ⟨rfl, X1, Y1, rl1, ST1, ha, hf', hI1, hST, hmo⟩ := hq
  have hf := hf.tr hf'
  obtain ⟨hvs, hvw, hr2, hvst, -⟩ := hI1.2.1 n hn6
  have hvs := hvs hn
  rw [hST] at hvst
  obtain ⟨hvk, hpv⟩ := hvst.2.2 rfl
  have hLe : (aR s n).length = (rD (aW s n) (aSg s n)).length := rfl
  have hrA : rfA (aR s n).length (nI k) = 0 := rfA_0 hN hk
  rw [hrA]
  refine mm_istore (L' := [(5, .int (nI (0))), (4, .ref (o + (61 + 10 * n))), (0, .ref (o + 0)), (1, .int (nI (n))), (2, .int (nI (k))), (3, .int (nI (i)))]) dX11_value_14 (by decide) rfl ?_
  refine mm_aload dX11_value_16 1 rfl ?_
  refine mm_ifnull dX11_value_18 ?_
  refine mm_iload dX11_value_21 0 rfl ?_
  refine mn_if_eq (tgt := 29) dX11_value_23 (by decide) (by omega) (fun c23 => ?_) (fun c23 => ?_)
  · have hyl := rD_ok hrk hy
    have hyl2 : y.2.length = aSz s n := hyl.2
    refine mm_iload_n dX11_value_29 rfl 5 rfl ?_
    refine mn_if_lt (tgt := 45) dX11_value_30 (by decide) (by omega) ?_
    refine mm_iload_n dX11_value_33 rfl 5 rfl ?_
    refine mm_aload dX11_value_34 1 rfl ?_
    refine cm_getR (b := 61 + 10 * n + 3) dX11_value_36 ha zr_X11_70 (vA_lt hva 0 (by decide)) (vA_0 hva) rfl rfl ?_
    refine cm_getI dX11_value_39 ha zr_X11_74 (vA_lt hva 3 (by decide)) (vA_3 hva) rfl ?_
    refine mn_top (u := .int (nI (aSz s n))) (congrArg Value.int ((hvw.1.1))) ?_
    refine mn_icmp_lt (tgt := 47) dX11_value_42 (by decide) (by omega) (by omega) (fun c42 => ?_) (fun c42 => ?_)
    · refine mm_aload_n dX11_value_47 rfl 2 rfl ?_
      refine cm_getR (b := 3) dX11_value_48 ha zr_X11_24 (by decide) rfl rfl rfl ?_
      refine mm_aload dX11_value_51 1 rfl ?_
      refine mm_iload_n dX11_value_53 rfl 4 rfl ?_
      obtain ⟨x, hx, hxy⟩ := rD_sS (show (rD (aW s n) (aSg s n))[k]? = some y from hy)
      refine cm_callV (As := [.ref (o + (61 + 10 * n)), .int (nI (k))]) (rest := []) (d2 := 5) dX11_value_54 ha (by decide) rfl zz_clX5 zc_X11_158 zs_X5_makeAgain rfl rfl (Nat.le_of_ble_eq_true rfl) (Nat.le_of_ble_eq_true rfl) (by decide) (cR_makeAgain (w := aW s n) (sg := aSg s n) ha hva hvw hvs hvk hrk hd0 (by rw [← hL, ← hLe]; exact hN) (by rw [← hL, ← hLe]; exact hk) hx (fun z => hI1.2.2.2.2.2 n hn6 z hST hN)) (fun r h1 hq => ?_)
      obtain ⟨rfl, X2, Y2, ha, hf', hrd, hY, hvk2, hkn2, hdr⟩ := hq
      have hf := hf.tr hf'
      rw [hxy] at hdr
      have hI2 := CI_mk hW hI1 hn hST hrd hY hvk2 hkn2
      refine mm_aload_n dX11_value_57 rfl 2 rfl ?_
      refine cm_getR (b := 3) dX11_value_58 ha zr_X11_24 (by decide) rfl rfl rfl ?_
      refine cm_getR (b := 25) dX11_value_61 ha zr_X11_162 (by decide) rfl rfl rfl ?_
      refine mm_iload_n dX11_value_64 rfl 5 rfl ?_
      refine cm_callVr (As := [.int (nI (i))]) (rest := []) (d2 := 0) dX11_value_65 ha (by decide) rfl zz_clX1 zc_X11_174 zs_X1_ticksAt rfl rfl (Nat.le_of_ble_eq_true rfl) (Nat.le_of_ble_eq_true rfl) (by decide) (cd_ticksAt ha (by omega)) ?_
      refine mn_top (u := .int (nI (y.2.getD i 0))) (congrArg Value.int (by rw [if_pos (by omega)]; exact hdr.2.2 i (by omega))) ?_
      exact mm_iret dX11_value_68 rfl (⟨rfl, X2, Y2, _, ST1, ha, hf, hI2⟩)
    · omega
  · exact absurd rfl c23
set_option maxRecDepth 100000 in
set_option maxHeartbeats 4000000 in
theorem cM_valueN2 {l : Launch} {D : va_G} {aa : Nat → ClassId} {b0 : Nat} {h : mm_H} {o : Nat} {X : Nat → Nat → Int32} {Y : Nat → Nat → Int64} {rl : Option Nat} {s : aS} {ST : Nat → Bool} {n k : Nat} {y : gR} {i : Int32} (ha : cm_at o X Y rl h) (hW : WF s) (hI : CI s ST X Y rl) (hn : n < aNv s) (hN : (aR s n).length ≤ 1000) (hk : k < (aR s n).length) (hy : (aR s n)[k]? = some y) (hi : i < 0 ∨ nI (aSz s n) ≤ i) : mm_V (zz_K l D aa b0) 6 yX11_value cX11_value 6 (some .int) 0 [(0, .ref (o + 0)), (1, .int (nI (n))), (2, .int (nI (k))), (3, .int (i))] [] h 0 0 (fun rv h' => rv = some (.int (-1)) ∧ ∃ (X' : Nat → Nat → Int32) (Y' : Nat → Nat → Int64) (rl' : Option Nat) (ST' : Nat → Bool), cm_at o X' Y' rl' h' ∧ cm_fr o h h' ∧ CI s ST' X' Y' rl') := by
  have hf := cm_fr.rf (o := o) (h := h)
  have hn6 : n < 6 := by have := hW.1.1; omega
  have hva : vA (61 + 10 * n) := Or.inr ⟨n, hn6, rfl⟩
  have hvok := hW.2.1 n hn6
  have hrk := vok_rk hvok
  have hd0 := hvok.2.2.2.2.1
  have hsz24 : aSz s n ≤ 24 := hvok.1.2
  have hL := rD_len hrk
  obtain ⟨hvs, hvw, hr2, hvst, -⟩ := hI.2.1 n hn6
  have hvs := hvs hn
  refine mm_aload_n dX11_value_0 rfl 0 rfl ?_
  refine mm_iload_n dX11_value_1 rfl 1 rfl ?_
  refine cm_callVr (As := [.int (nI (n))]) (rest := []) (d2 := 0) dX11_value_2 ha (by decide) rfl zz_clX11 zc_X11_55 zs_X11_voiceAt rfl rfl (Nat.le_of_ble_eq_true rfl) (Nat.le_of_ble_eq_true rfl) (by decide) (cM_voiceAt ha hI.1.1 hW.1.1 hn) ?_
  refine mm_astore (L' := [(4, .ref (o + (61 + 10 * n))), (0, .ref (o + 0)), (1, .int (nI (n))), (2, .int (nI (k))), (3, .int (i))]) dX11_value_5 (by decide) rfl ?_
  refine mm_aload_n dX11_value_7 rfl 1 rfl ?_
  refine mm_aload dX11_value_8 0 rfl ?_
  refine mm_iload_n dX11_value_10 rfl 3 rfl ?_
  refine cm_callV (As := [.ref (o + (61 + 10 * n)), .int (nI (k))]) (rest := []) (d2 := 5) dX11_value_11 ha (by decide) rfl zz_clX11 zc_X11_154 zs_X11_refusalOf rfl rfl (Nat.le_of_ble_eq_true rfl) (Nat.le_of_ble_eq_true rfl) (by decide) (cM_refusalOf ha hW hI hn) (fun r h1 hq => ?_)
  obtain ⟨rfl, X1, Y1, rl1, ST1, ha, hf', hI1, hST, hmo⟩ := hq
  have hf := hf.tr hf'
  obtain ⟨hvs, hvw, hr2, hvst, -⟩ := hI1.2.1 n hn6
  have hvs := hvs hn
  rw [hST] at hvst
  obtain ⟨hvk, hpv⟩ := hvst.2.2 rfl
  have hLe : (aR s n).length = (rD (aW s n) (aSg s n)).length := rfl
  have hrA : rfA (aR s n).length (nI k) = 0 := rfA_0 hN hk
  rw [hrA]
  refine mm_istore (L' := [(5, .int (nI (0))), (4, .ref (o + (61 + 10 * n))), (0, .ref (o + 0)), (1, .int (nI (n))), (2, .int (nI (k))), (3, .int (i))]) dX11_value_14 (by decide) rfl ?_
  refine mm_aload dX11_value_16 1 rfl ?_
  refine mm_ifnull dX11_value_18 ?_
  refine mm_iload dX11_value_21 0 rfl ?_
  refine mn_if_eq (tgt := 29) dX11_value_23 (by decide) (by omega) (fun c23 => ?_) (fun c23 => ?_)
  · refine mm_iload_n dX11_value_29 rfl 5 rfl ?_
    refine mm_if_lt (tgt := 45) dX11_value_30 (by decide) (fun c30 => ?_) (fun c30 => ?_)
    · refine mm_iconst (v := (-1)) dX11_value_45 (by decide) ?_
      exact mm_iret dX11_value_46 rfl (⟨rfl, X1, Y1, _, ST1, ha, hf, hI1⟩)
    · refine mm_iload_n dX11_value_33 rfl 5 rfl ?_
      refine mm_aload dX11_value_34 1 rfl ?_
      refine cm_getR (b := 61 + 10 * n + 3) dX11_value_36 ha zr_X11_70 (vA_lt hva 0 (by decide)) (vA_0 hva) rfl rfl ?_
      refine cm_getI dX11_value_39 ha zr_X11_74 (vA_lt hva 3 (by decide)) (vA_3 hva) rfl ?_
      refine mn_top (u := .int (nI (aSz s n))) (congrArg Value.int ((hvw.1.1))) ?_
      refine mm_icmp_lt (tgt := 47) dX11_value_42 (by decide) (fun c42 => ?_) (fun c42 => ?_)
      · exact hi.elim (fun z => absurd z c30) (fun z => absurd z (i32_nle c42))
      · refine mm_iconst (v := (-1)) dX11_value_45 (by decide) ?_
        exact mm_iret dX11_value_46 rfl (⟨rfl, X1, Y1, _, ST1, ha, hf, hI1⟩)
  · exact absurd rfl c23
