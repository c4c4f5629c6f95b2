/-! the reference: voices, symbols -/
set_option maxRecDepth 100000 in
set_option maxHeartbeats 4000000 in
theorem tM_isVoice {l : Launch} {D : va_G} {aa : Nat → ClassId} {b0 : Nat} {h : mm_H} {o : Nat} {F : Nat → Int32} {G : Nat → Int64} {A : Nat → Nat → Int32} {B : Nat → Nat → Int64} {s : aS} {v : Int32} (ha : rm_at o F G A B h) (hW : WF s) (hI : RI s F A B) (hv : (0 : Int) ≤ v.toInt ∧ v.toInt ≤ (aNv s : Int) - 1) : mm_V (zz_K l D aa b0) 1 yX12_isVoice cX12_isVoice 2 (some .boolean) 0 [(0, .ref (o)), (1, .int (v))] [] h 0 0 (fun r h' => h' = h ∧ r = some (.int (nI (Bool.toNat true)))) := by
  have hnv6 := hW.1.1
  refine mm_iload_n dX12_isVoice_0 rfl 1 rfl ?_
  refine mm_i2l dX12_isVoice_1 ?_
  refine mm_lconst (v := lN 0) dX12_isVoice_2 (by decide) ?_
  refine mm_aload_n dX12_isVoice_3 rfl 0 rfl ?_
  refine rm_getI 0 dX12_isVoice_4 ha zf_voices (by decide) rfl rfl ?_
  refine mn_top (u := .int (nI (aNv s))) (congrArg Value.int ((hI.1.1.1))) ?_
  refine mm_iconst (v := nI 1) dX12_isVoice_7 (by decide) ?_
  refine mm_isub dX12_isVoice_8 ?_
  refine mm_i2l dX12_isVoice_9 ?_
  refine rm_callSr (As := [.long ((v).toInt64), .long (lN (0)), .long (((nI (aNv s)) - (nI (1))).toInt64)]) (rest := []) (d2 := 0) dX12_isVoice_10 zc_isIn rfl rfl (Nat.le_of_ble_eq_true rfl) (Nat.le_of_ble_eq_true rfl) (by decide) (tm_isIn _ _ _) ?_
  refine mn_top (u := .int (nI (Bool.toNat (true)))) (congrArg Value.int (in_t (a := 0) (b := (aNv s : Int) - 1) (by decide) (in_s (by omega)) (by omega) (by omega) (hv))) ?_
  exact mm_zret dX12_isVoice_13 rfl (by first | decide | exact mn_nz _) (⟨rfl, rfl⟩)
set_option maxRecDepth 100000 in
set_option maxHeartbeats 4000000 in
theorem tM_isVoiceN {l : Launch} {D : va_G} {aa : Nat → ClassId} {b0 : Nat} {h : mm_H} {o : Nat} {F : Nat → Int32} {G : Nat → Int64} {A : Nat → Nat → Int32} {B : Nat → Nat → Int64} {s : aS} {v : Int32} (ha : rm_at o F G A B h) (hW : WF s) (hI : RI s F A B) (hv : v < 0 ∨ nI (aNv s) ≤ v) : mm_V (zz_K l D aa b0) 1 yX12_isVoice cX12_isVoice 2 (some .boolean) 0 [(0, .ref (o)), (1, .int (v))] [] h 0 0 (fun r h' => h' = h ∧ r = some (.int (nI (Bool.toNat false)))) := by
  have hnv6 := hW.1.1
  refine mm_iload_n dX12_isVoice_0 rfl 1 rfl ?_
  refine mm_i2l dX12_isVoice_1 ?_
  refine mm_lconst (v := lN 0) dX12_isVoice_2 (by decide) ?_
  refine mm_aload_n dX12_isVoice_3 rfl 0 rfl ?_
  refine rm_getI 0 dX12_isVoice_4 ha zf_voices (by decide) rfl rfl ?_
  refine mn_top (u := .int (nI (aNv s))) (congrArg Value.int ((hI.1.1.1))) ?_
  refine mm_iconst (v := nI 1) dX12_isVoice_7 (by decide) ?_
  refine mm_isub dX12_isVoice_8 ?_
  refine mm_i2l dX12_isVoice_9 ?_
  refine rm_callSr (As := [.long ((v).toInt64), .long (lN (0)), .long (((nI (aNv s)) - (nI (1))).toInt64)]) (rest := []) (d2 := 0) dX12_isVoice_10 zc_isIn rfl rfl (Nat.le_of_ble_eq_true rfl) (Nat.le_of_ble_eq_true rfl) (by decide) (tm_isIn _ _ _) ?_
  refine mn_top (u := .int (nI (Bool.toNat (false)))) (congrArg Value.int (in_f (a := 0) (b := (aNv s : Int) - 1) (by decide) (in_s (by omega)) (by omega) (by omega) (out_in (by omega) hv))) ?_
  exact mm_zret dX12_isVoice_13 rfl (by first | decide | exact mn_nz _) (⟨rfl, rfl⟩)
set_option maxRecDepth 100000 in
set_option maxHeartbeats 4000000 in
theorem tM_restN {l : Launch} {D : va_G} {aa : Nat → ClassId} {b0 : Nat} {h : mm_H} {o : Nat} {F : Nat → Int32} {G : Nat → Int64} {A : Nat → Nat → Int32} {B : Nat → Nat → Int64} {s : aS} {v : Int32} {x0 : Int32} (ha : rm_at o F G A B h) (hW : WF s) (hI : RI s F A B) (hv : v < 0 ∨ nI (aNv s) ≤ v) : mm_V (zz_K l D aa b0) 2 yX12_rest cX12_rest 3 (some .int) 0 [(0, .ref (o)), (1, .int (v)), (2, .int (x0))] [] h 0 0 (fun r h' => h' = h ∧ r = some (.int (-2))) := by
  refine mm_aload_n dX12_rest_0 rfl 0 rfl ?_
  refine mm_iload_n dX12_rest_1 rfl 1 rfl ?_
  refine rm_callVr (As := [.int (v)]) (rest := []) (d2 := 1) dX12_rest_2 ha zc_isVoice zc_isVoice_s rfl rfl rfl (Nat.le_of_ble_eq_true rfl) (Nat.le_of_ble_eq_true rfl) (by decide) (tM_isVoiceN ha hW hI hv) ?_
  refine mn_ifB_eq (tgt := 20) dX12_rest_5 (by decide) (fun c5 => ?_) (fun c5 => ?_)
  · refine mm_bipush (v := (-2)) dX12_rest_20 (by decide) ?_
    exact mm_iret dX12_rest_22 rfl (⟨rfl, rfl⟩)
  · cases c5
set_option maxRecDepth 100000 in
set_option maxHeartbeats 4000000 in
theorem tM_dotN {l : Launch} {D : va_G} {aa : Nat → ClassId} {b0 : Nat} {h : mm_H} {o : Nat} {F : Nat → Int32} {G : Nat → Int64} {A : Nat → Nat → Int32} {B : Nat → Nat → Int64} {s : aS} {v : Int32} (ha : rm_at o F G A B h) (hW : WF s) (hI : RI s F A B) (hv : v < 0 ∨ nI (aNv s) ≤ v) : mm_V (zz_K l D aa b0) 2 yX12_dot cX12_dot 2 (some .int) 0 [(0, .ref (o)), (1, .int (v))] [] h 0 0 (fun r h' => h' = h ∧ r = some (.int (-2))) := by
  refine mm_aload_n dX12_dot_0 rfl 0 rfl ?_
  refine mm_iload_n dX12_dot_1 rfl 1 rfl ?_
  refine rm_callVr (As := [.int (v)]) (rest := []) (d2 := 1) dX12_dot_2 ha zc_isVoice zc_isVoice_s rfl rfl rfl (Nat.le_of_ble_eq_true rfl) (Nat.le_of_ble_eq_true rfl) (by decide) (tM_isVoiceN ha hW hI hv) ?_
  refine mn_ifB_eq (tgt := 39) dX12_dot_5 (by decide) (fun c5 => ?_) (fun c5 => ?_)
  · refine mm_bipush (v := (-2)) dX12_dot_39 (by decide) ?_
    exact mm_iret dX12_dot_41 rfl (⟨rfl, rfl⟩)
  · cases c5
set_option maxRecDepth 100000 in
set_option maxHeartbeats 4000000 in
theorem tM_proportionN {l : Launch} {D : va_G} {aa : Nat → ClassId} {b0 : Nat} {h : mm_H} {o : Nat} {F : Nat → Int32} {G : Nat → Int64} {A : Nat → Nat → Int32} {B : Nat → Nat → Int64} {s : aS} {v : Int32} {x0 : Int32} {x1 : Int32} (ha : rm_at o F G A B h) (hW : WF s) (hI : RI s F A B) (hv : v < 0 ∨ nI (aNv s) ≤ v) : mm_V (zz_K l D aa b0) 2 yX12_proportion cX12_proportion 7 (some .int) 0 [(0, .ref (o)), (1, .int (v)), (2, .int (x0)), (3, .int (x1))] [] h 0 0 (fun r h' => h' = h ∧ r = some (.int (-2))) := by
  refine mm_aload_n dX12_proportion_0 rfl 0 rfl ?_
  refine mm_iload_n dX12_proportion_1 rfl 1 rfl ?_
  refine rm_callVr (As := [.int (v)]) (rest := []) (d2 := 1) dX12_proportion_2 ha zc_isVoice zc_isVoice_s rfl rfl rfl (Nat.le_of_ble_eq_true rfl) (Nat.le_of_ble_eq_true rfl) (by decide) (tM_isVoiceN ha hW hI hv) ?_
  refine mn_ifB_eq (tgt := 32) dX12_proportion_5 (by decide) (fun c5 => ?_) (fun c5 => ?_)
  · refine mm_bipush (v := (-2)) dX12_proportion_32 (by decide) ?_
    exact mm_iret dX12_proportion_34 rfl (⟨rfl, rfl⟩)
  · cases c5
set_option maxRecDepth 100000 in
set_option maxHeartbeats 4000000 in
theorem tM_backN {l : Launch} {D : va_G} {aa : Nat → ClassId} {b0 : Nat} {h : mm_H} {o : Nat} {F : Nat → Int32} {G : Nat → Int64} {A : Nat → Nat → Int32} {B : Nat → Nat → Int64} {s : aS} {v : Int32} (ha : rm_at o F G A B h) (hW : WF s) (hI : RI s F A B) (hv : v < 0 ∨ nI (aNv s) ≤ v) : mm_V (zz_K l D aa b0) 2 yX12_back cX12_back 2 (some .int) 0 [(0, .ref (o)), (1, .int (v))] [] h 0 0 (fun r h' => h' = h ∧ r = some (.int (-2))) := by
  refine mm_aload_n dX12_back_0 rfl 0 rfl ?_
  refine mm_iload_n dX12_back_1 rfl 1 rfl ?_
  refine rm_callVr (As := [.int (v)]) (rest := []) (d2 := 1) dX12_back_2 ha zc_isVoice zc_isVoice_s rfl rfl rfl (Nat.le_of_ble_eq_true rfl) (Nat.le_of_ble_eq_true rfl) (by decide) (tM_isVoiceN ha hW hI hv) ?_
  refine mn_ifB_ne (tgt := 11) dX12_back_5 (by decide) (fun c5 => ?_) (fun c5 => ?_)
  · cases c5
  · refine mm_bipush (v := (-2)) dX12_back_8 (by decide) ?_
    exact mm_iret dX12_back_10 rfl (⟨rfl, rfl⟩)
set_option maxRecDepth 100000 in
set_option maxHeartbeats 4000000 in
theorem tM_toldN {l : Launch} {D : va_G} {aa : Nat → ClassId} {b0 : Nat} {h : mm_H} {o : Nat} {F : Nat → Int32} {G : Nat → Int64} {A : Nat → Nat → Int32} {B : Nat → Nat → Int64} {s : aS} {v : Int32} {x0 : Int32} (ha : rm_at o F G A B h) (hW : WF s) (hI : RI s F A B) (hv : v < 0 ∨ nI (aNv s) ≤ v) : mm_V (zz_K l D aa b0) 2 yX12_told cX12_told 3 (some .int) 0 [(0, .ref (o)), (1, .int (v)), (2, .int (x0))] [] h 0 0 (fun r h' => h' = h ∧ r = some (.int (-2))) := by
  refine mm_aload_n dX12_told_0 rfl 0 rfl ?_
  refine mm_iload_n dX12_told_1 rfl 1 rfl ?_
  refine rm_callVr (As := [.int (v)]) (rest := []) (d2 := 1) dX12_told_2 ha zc_isVoice zc_isVoice_s rfl rfl rfl (Nat.le_of_ble_eq_true rfl) (Nat.le_of_ble_eq_true rfl) (by decide) (tM_isVoiceN ha hW hI hv) ?_
  refine mn_ifB_eq (tgt := 20) dX12_told_5 (by decide) (fun c5 => ?_) (fun c5 => ?_)
  · refine mm_bipush (v := (-2)) dX12_told_20 (by decide) ?_
    exact mm_iret dX12_told_22 rfl (⟨rfl, rfl⟩)
  · cases c5
set_option maxRecDepth 100000 in
set_option maxHeartbeats 4000000 in
theorem tM_symbolN {l : Launch} {D : va_G} {aa : Nat → ClassId} {b0 : Nat} {h : mm_H} {o : Nat} {F : Nat → Int32} {G : Nat → Int64} {A : Nat → Nat → Int32} {B : Nat → Nat → Int64} {s : aS} {v : Int32} {x0 : Int32} {x1 : Int32} (ha : rm_at o F G A B h) (hW : WF s) (hI : RI s F A B) (hv : v < 0 ∨ nI (aNv s) ≤ v) : mm_V (zz_K l D aa b0) 2 yX12_symbol cX12_symbol 5 (some .int) 0 [(0, .ref (o)), (1, .int (v)), (2, .int (x0)), (3, .int (x1))] [] h 0 0 (fun r h' => h' = h ∧ r = some (.int (-2))) := by
  refine mm_aload_n dX12_symbol_0 rfl 0 rfl ?_
  refine mm_iload_n dX12_symbol_1 rfl 1 rfl ?_
  refine rm_callVr (As := [.int (v)]) (rest := []) (d2 := 1) dX12_symbol_2 ha zc_isVoice zc_isVoice_s rfl rfl rfl (Nat.le_of_ble_eq_true rfl) (Nat.le_of_ble_eq_true rfl) (by decide) (tM_isVoiceN ha hW hI hv) ?_
  refine mn_ifB_eq (tgt := 38) dX12_symbol_5 (by decide) (fun c5 => ?_) (fun c5 => ?_)
  · refine mm_bipush (v := (-2)) dX12_symbol_38 (by decide) ?_
    exact mm_iret dX12_symbol_40 rfl (⟨rfl, rfl⟩)
  · cases c5
set_option maxRecDepth 100000 in
set_option maxHeartbeats 4000000 in
theorem tM_noteN {l : Launch} {D : va_G} {aa : Nat → ClassId} {b0 : Nat} {h : mm_H} {o : Nat} {F : Nat → Int32} {G : Nat → Int64} {A : Nat → Nat → Int32} {B : Nat → Nat → Int64} {s : aS} {v : Int32} {x0 : Int32} {x1 : Int32} {x2 : Bool} (ha : rm_at o F G A B h) (hW : WF s) (hI : RI s F A B) (hv : v < 0 ∨ nI (aNv s) ≤ v) : mm_V (zz_K l D aa b0) 2 yX12_note cX12_note 5 (some .int) 0 [(0, .ref (o)), (1, .int (v)), (2, .int (x0)), (3, .int (x1)), (4, .int (nI (Bool.toNat (x2))))] [] h 0 0 (fun r h' => h' = h ∧ r = some (.int (-2))) := by
  refine mm_aload_n dX12_note_0 rfl 0 rfl ?_
  refine mm_iload_n dX12_note_1 rfl 1 rfl ?_
  refine rm_callVr (As := [.int (v)]) (rest := []) (d2 := 1) dX12_note_2 ha zc_isVoice zc_isVoice_s rfl rfl rfl (Nat.le_of_ble_eq_true rfl) (Nat.le_of_ble_eq_true rfl) (by decide) (tM_isVoiceN ha hW hI hv) ?_
  refine mn_ifB_eq (tgt := 34) dX12_note_5 (by decide) (fun c5 => ?_) (fun c5 => ?_)
  · refine mm_bipush (v := (-2)) dX12_note_34 (by decide) ?_
    exact mm_iret dX12_note_36 rfl (⟨rfl, rfl⟩)
  · cases c5
set_option maxRecDepth 100000 in
set_option maxHeartbeats 4000000 in
theorem tM_ligatureN {l : Launch} {D : va_G} {aa : Nat → ClassId} {b0 : Nat} {h : mm_H} {o : Nat} {F : Nat → Int32} {G : Nat → Int64} {A : Nat → Nat → Int32} {B : Nat → Nat → Int64} {s : aS} {v : Int32} {x0 : Int32} {x1 : Int32} {x2 : Int64} (ha : rm_at o F G A B h) (hW : WF s) (hI : RI s F A B) (hv : v < 0 ∨ nI (aNv s) ≤ v) : mm_V (zz_K l D aa b0) 2 yX12_ligature cX12_ligature 11 (some .int) 0 [(0, .ref (o)), (1, .int (v)), (2, .int (x0)), (3, .int (x1)), (4, .long (x2))] [] h 0 0 (fun r h' => h' = h ∧ r = some (.int (-2))) := by
  refine mm_aload_n dX12_ligature_0 rfl 0 rfl ?_
  refine mm_iload_n dX12_ligature_1 rfl 1 rfl ?_
  refine rm_callVr (As := [.int (v)]) (rest := []) (d2 := 1) dX12_ligature_2 ha zc_isVoice zc_isVoice_s rfl rfl rfl (Nat.le_of_ble_eq_true rfl) (Nat.le_of_ble_eq_true rfl) (by decide) (tM_isVoiceN ha hW hI hv) ?_
  refine mn_ifB_eq (tgt := 34) dX12_ligature_5 (by decide) (fun c5 => ?_) (fun c5 => ?_)
  · refine mm_bipush (v := (-2)) dX12_ligature_34 (by decide) ?_
    exact mm_iret dX12_ligature_36 rfl (⟨rfl, rfl⟩)
  · cases c5
set_option maxRecDepth 100000 in
set_option maxHeartbeats 4000000 in
theorem tM_atN {l : Launch} {D : va_G} {aa : Nat → ClassId} {b0 : Nat} {h : mm_H} {o : Nat} {F : Nat → Int32} {G : Nat → Int64} {A : Nat → Nat → Int32} {B : Nat → Nat → Int64} {s : aS} {v : Int32} {x0 : Int32} {x1 : Int32} (ha : rm_at o F G A B h) (hW : WF s) (hI : RI s F A B) (hv : v < 0 ∨ nI (aNv s) ≤ v) : mm_V (zz_K l D aa b0) 2 yX12_at cX12_at 8 (some .int) 0 [(0, .ref (o)), (1, .int (v)), (2, .int (x0)), (3, .int (x1))] [] h 0 0 (fun r h' => h' = h ∧ r = some (.int (-2))) := by
  refine mm_aload_n dX12_at_0 rfl 0 rfl ?_
  refine mm_iload_n dX12_at_1 rfl 1 rfl ?_
  refine rm_callVr (As := [.int (v)]) (rest := []) (d2 := 1) dX12_at_2 ha zc_isVoice zc_isVoice_s rfl rfl rfl (Nat.le_of_ble_eq_true rfl) (Nat.le_of_ble_eq_true rfl) (by decide) (tM_isVoiceN ha hW hI hv) ?_
  refine mn_ifB_eq (tgt := 17) dX12_at_5 (by decide) (fun c5 => ?_) (fun c5 => ?_)
  · refine mm_bipush (v := (-2)) dX12_at_17 (by decide) ?_
    exact mm_iret dX12_at_19 rfl (⟨rfl, rfl⟩)
  · cases c5
set_option maxRecDepth 100000 in
set_option maxHeartbeats 4000000 in
theorem tM_canonN {l : Launch} {D : va_G} {aa : Nat → ClassId} {b0 : Nat} {h : mm_H} {o : Nat} {F : Nat → Int32} {G : Nat → Int64} {A : Nat → Nat → Int32} {B : Nat → Nat → Int64} {s : aS} {v : Int32} {x0 : Int32} {x1 : Int32} {x2 : Int32} (ha : rm_at o F G A B h) (hW : WF s) (hI : RI s F A B) (hv : v < 0 ∨ nI (aNv s) ≤ v) : mm_V (zz_K l D aa b0) 2 yX12_canon cX12_canon 20 (some .int) 0 [(0, .ref (o)), (1, .int (v)), (2, .int (x0)), (3, .int (x1)), (4, .int (x2))] [] h 0 0 (fun r h' => h' = h ∧ r = some (.int (-2))) := by
  refine mm_aload_n dX12_canon_0 rfl 0 rfl ?_
  refine mm_iload_n dX12_canon_1 rfl 1 rfl ?_
  refine rm_callVr (As := [.int (v)]) (rest := []) (d2 := 1) dX12_canon_2 ha zc_isVoice zc_isVoice_s rfl rfl rfl (Nat.le_of_ble_eq_true rfl) (Nat.le_of_ble_eq_true rfl) (by decide) (tM_isVoiceN ha hW hI hv) ?_
  refine mn_ifB_eq (tgt := 47) dX12_canon_5 (by decide) (fun c5 => ?_) (fun c5 => ?_)
  · refine mm_bipush (v := (-2)) dX12_canon_47 (by decide) ?_
    exact mm_iret dX12_canon_49 rfl (⟨rfl, rfl⟩)
  · cases c5
set_option maxRecDepth 100000 in
set_option maxHeartbeats 4000000 in
theorem tM_readingsN {l : Launch} {D : va_G} {aa : Nat → ClassId} {b0 : Nat} {h : mm_H} {o : Nat} {F : Nat → Int32} {G : Nat → Int64} {A : Nat → Nat → Int32} {B : Nat → Nat → Int64} {s : aS} {v : Int32} (ha : rm_at o F G A B h) (hW : WF s) (hI : RI s F A B) (hv : v < 0 ∨ nI (aNv s) ≤ v) : mm_V (zz_K l D aa b0) 2 yX12_readings cX12_readings 2 (some .int) 0 [(0, .ref (o)), (1, .int (v))] [] h 0 0 (fun r h' => h' = h ∧ r = some (.int (-2))) := by
  refine mm_aload_n dX12_readings_0 rfl 0 rfl ?_
  refine mm_iload_n dX12_readings_1 rfl 1 rfl ?_
  refine rm_callVr (As := [.int (v)]) (rest := []) (d2 := 1) dX12_readings_2 ha zc_isVoice zc_isVoice_s rfl rfl rfl (Nat.le_of_ble_eq_true rfl) (Nat.le_of_ble_eq_true rfl) (by decide) (tM_isVoiceN ha hW hI hv) ?_
  refine mn_ifB_eq (tgt := 16) dX12_readings_5 (by decide) (fun c5 => ?_) (fun c5 => ?_)
  · refine mm_bipush (v := (-2)) dX12_readings_16 (by decide) ?_
    exact mm_iret dX12_readings_18 rfl (⟨rfl, rfl⟩)
  · cases c5
set_option maxRecDepth 100000 in
set_option maxHeartbeats 4000000 in
theorem tM_stuckN {l : Launch} {D : va_G} {aa : Nat → ClassId} {b0 : Nat} {h : mm_H} {o : Nat} {F : Nat → Int32} {G : Nat → Int64} {A : Nat → Nat → Int32} {B : Nat → Nat → Int64} {s : aS} {v : Int32} (ha : rm_at o F G A B h) (hW : WF s) (hI : RI s F A B) (hv : v < 0 ∨ nI (aNv s) ≤ v) : mm_V (zz_K l D aa b0) 2 yX12_stuck cX12_stuck 5 (some .int) 0 [(0, .ref (o)), (1, .int (v))] [] h 0 0 (fun r h' => h' = h ∧ r = some (.int (-2))) := by
  refine mm_aload_n dX12_stuck_0 rfl 0 rfl ?_
  refine mm_iload_n dX12_stuck_1 rfl 1 rfl ?_
  refine rm_callVr (As := [.int (v)]) (rest := []) (d2 := 1) dX12_stuck_2 ha zc_isVoice zc_isVoice_s rfl rfl rfl (Nat.le_of_ble_eq_true rfl) (Nat.le_of_ble_eq_true rfl) (by decide) (tM_isVoiceN ha hW hI hv) ?_
  refine mn_ifB_ne (tgt := 11) dX12_stuck_5 (by decide) (fun c5 => ?_) (fun c5 => ?_)
  · cases c5
  · refine mm_bipush (v := (-2)) dX12_stuck_8 (by decide) ?_
    exact mm_iret dX12_stuck_10 rfl (⟨rfl, rfl⟩)
set_option maxRecDepth 100000 in
set_option maxHeartbeats 4000000 in
theorem tM_timeN {l : Launch} {D : va_G} {aa : Nat → ClassId} {b0 : Nat} {h : mm_H} {o : Nat} {F : Nat → Int32} {G : Nat → Int64} {A : Nat → Nat → Int32} {B : Nat → Nat → Int64} {s : aS} {v : Int32} {x0 : Int32} {x1 : Int32} (ha : rm_at o F G A B h) (hW : WF s) (hI : RI s F A B) (hv : v < 0 ∨ nI (aNv s) ≤ v) : mm_V (zz_K l D aa b0) 2 yX12_time cX12_time 5 (some .long) 0 [(0, .ref (o)), (1, .int (v)), (2, .int (x0)), (3, .int (x1))] [] h 0 0 (fun r h' => h' = h ∧ r = some (.long (-2))) := by
  refine mm_aload_n dX12_time_0 rfl 0 rfl ?_
  refine mm_iload_n dX12_time_1 rfl 1 rfl ?_
  refine rm_callVr (As := [.int (v)]) (rest := []) (d2 := 1) dX12_time_2 ha zc_isVoice zc_isVoice_s rfl rfl rfl (Nat.le_of_ble_eq_true rfl) (Nat.le_of_ble_eq_true rfl) (by decide) (tM_isVoiceN ha hW hI hv) ?_
  refine mn_ifB_eq (tgt := 18) dX12_time_5 (by decide) (fun c5 => ?_) (fun c5 => ?_)
  · refine mm_ldc2 (v := (-2)) dX12_time_18 zk_346 ?_
    exact mm_lret dX12_time_21 rfl (⟨rfl, rfl⟩)
  · cases c5
set_option maxRecDepth 100000 in
set_option maxHeartbeats 4000000 in
theorem tM_told {l : Launch} {D : va_G} {aa : Nat → ClassId} {b0 : Nat} {h : mm_H} {o : Nat} {F : Nat → Int32} {G : Nat → Int64} {A : Nat → Nat → Int32} {B : Nat → Nat → Int64} {s : aS} {n : Nat} {w : Nat} (ha : rm_at o F G A B h) (hW : WF s) (hI : RI s F A B) (hn : n < aNv s) (hw7 : w < 7) : mm_V (zz_K l D aa b0) 3 yX12_told cX12_told 3 (some .int) 0 [(0, .ref (o)), (1, .int (nI (n))), (2, .int (nI (w)))] [] h 0 0 (fun r h' => h' = h ∧ r = some (.int (nI (toldA s n w)))) := by
  have hf : rm_fr o h h := rm_fr.rf
  have hn6 : n < 6 := by have := hW.1.1; omega
  have hvok := hW.2.1 n hn6
  have hsz24 : aSz s n ≤ 24 := hvok.1.2
  obtain ⟨⟨v1, w1⟩, ⟨v2, w2⟩, ⟨v3, w3⟩, ⟨v4, w4⟩, v5, w5⟩ := hI.1.2 n hn6
  have hw : w = 0 ∨ w = 1 ∨ w = 2 ∨ w = 3 ∨ w = 4 ∨ w = 5 ∨ w = 6 := by omega
  rcases hw with rfl | rfl | rfl | rfl | rfl | rfl | rfl
  · refine mm_aload_n dX12_told_0 rfl 0 rfl ?_
    refine mm_iload_n dX12_told_1 rfl 1 rfl ?_
    refine rm_callVr (As := [.int (nI (n))]) (rest := []) (d2 := 1) dX12_told_2 ha zc_isVoice zc_isVoice_s rfl rfl rfl (Nat.le_of_ble_eq_true rfl) (Nat.le_of_ble_eq_true rfl) (by decide) (tM_isVoice ha hW hI (nI_inb hn (by have := hW.1.1; omega))) ?_
    refine mn_ifB_eq (tgt := 20) dX12_told_5 (by decide) (fun c5 => ?_) (fun c5 => ?_)
    · cases c5
    · refine mm_iload_n dX12_told_8 rfl 2 rfl ?_
      refine mm_i2l dX12_told_9 ?_
      refine mm_lconst (v := lN 0) dX12_told_10 (by decide) ?_
      refine mm_ldc2 (v := (6)) dX12_told_11 zk_133 ?_
      refine mn_top (u := .long (lN (6))) (congrArg Value.long (by decide)) ?_
      refine rm_callSr (As := [.long ((nI (0)).toInt64), .long (lN (0)), .long (lN (6))]) (rest := []) (d2 := 0) dX12_told_14 zc_isIn rfl rfl (Nat.le_of_ble_eq_true rfl) (Nat.le_of_ble_eq_true rfl) (by decide) (tm_isIn _ _ _) ?_
      refine mn_top (u := .int (nI (Bool.toNat (true)))) (congrArg Value.int (in_t (a := 0) (b := 6) (by decide) (by decide) (by omega) (by omega) (by decide))) ?_
      refine mn_ifB_ne (tgt := 23) dX12_told_17 (by decide) (fun c17 => ?_) (fun c17 => ?_)
      · refine mm_iload_n dX12_told_23 rfl 2 rfl ?_
        refine mm_tableIn (off := 40) (tgt := 64) dX12_told_24 (by decide) (by decide) (by decide) (by decide) ?_
        refine mm_aload_n dX12_told_64 rfl 0 rfl ?_
        refine rm_getA 2 dX12_told_65 ha zf_sizeOf (by decide) rfl ?_
        refine mm_iload_n dX12_told_68 rfl 1 rfl ?_
        refine rm_iald (k := 2) dX12_told_69 ha rfl rfl rfl (show n < 6 from (by omega)) ?_
        refine mn_top (u := .int (nI (aSz s n))) (congrArg Value.int (v2)) ?_
        exact mm_iret dX12_told_70 rfl (⟨rfl, rfl⟩)
      · cases c17
  · refine mm_aload_n dX12_told_0 rfl 0 rfl ?_
    refine mm_iload_n dX12_told_1 rfl 1 rfl ?_
    refine rm_callVr (As := [.int (nI (n))]) (rest := []) (d2 := 1) dX12_told_2 ha zc_isVoice zc_isVoice_s rfl rfl rfl (Nat.le_of_ble_eq_true rfl) (Nat.le_of_ble_eq_true rfl) (by decide) (tM_isVoice ha hW hI (nI_inb hn (by have := hW.1.1; omega))) ?_
    refine mn_ifB_eq (tgt := 20) dX12_told_5 (by decide) (fun c5 => ?_) (fun c5 => ?_)
    · cases c5
    · refine mm_iload_n dX12_told_8 rfl 2 rfl ?_
      refine mm_i2l dX12_told_9 ?_
      refine mm_lconst (v := lN 0) dX12_told_10 (by decide) ?_
      refine mm_ldc2 (v := (6)) dX12_told_11 zk_133 ?_
      refine mn_top (u := .long (lN (6))) (congrArg Value.long (by decide)) ?_
      refine rm_callSr (As := [.long ((nI (1)).toInt64), .long (lN (0)), .long (lN (6))]) (rest := []) (d2 := 0) dX12_told_14 zc_isIn rfl rfl (Nat.le_of_ble_eq_true rfl) (Nat.le_of_ble_eq_true rfl) (by decide) (tm_isIn _ _ _) ?_
      refine mn_top (u := .int (nI (Bool.toNat (true)))) (congrArg Value.int (in_t (a := 0) (b := 6) (by decide) (by decide) (by omega) (by omega) (by decide))) ?_
      refine mn_ifB_ne (tgt := 23) dX12_told_17 (by decide) (fun c17 => ?_) (fun c17 => ?_)
      · refine mm_iload_n dX12_told_23 rfl 2 rfl ?_
        refine mm_tableIn (off := 47) (tgt := 71) dX12_told_24 (by decide) (by decide) (by decide) (by decide) ?_
        refine mm_aload_n dX12_told_71 rfl 0 rfl ?_
        refine rm_getA 1 dX12_told_72 ha zf_signOf (by decide) rfl ?_
        refine mm_iload_n dX12_told_75 rfl 1 rfl ?_
        refine rm_iald (k := 1) dX12_told_76 ha rfl rfl rfl (show n < 6 from (by omega)) ?_
        refine mn_top (u := .int (nI (aSg s n))) (congrArg Value.int (v1)) ?_
        exact mm_iret dX12_told_77 rfl (⟨rfl, rfl⟩)
      · cases c17
  · refine mm_aload_n dX12_told_0 rfl 0 rfl ?_
    refine mm_iload_n dX12_told_1 rfl 1 rfl ?_
    refine rm_callVr (As := [.int (nI (n))]) (rest := []) (d2 := 1) dX12_told_2 ha zc_isVoice zc_isVoice_s rfl rfl rfl (Nat.le_of_ble_eq_true rfl) (Nat.le_of_ble_eq_true rfl) (by decide) (tM_isVoice ha hW hI (nI_inb hn (by have := hW.1.1; omega))) ?_
    refine mn_ifB_eq (tgt := 20) dX12_told_5 (by decide) (fun c5 => ?_) (fun c5 => ?_)
    · cases c5
    · refine mm_iload_n dX12_told_8 rfl 2 rfl ?_
      refine mm_i2l dX12_told_9 ?_
      refine mm_lconst (v := lN 0) dX12_told_10 (by decide) ?_
      refine mm_ldc2 (v := (6)) dX12_told_11 zk_133 ?_
      refine mn_top (u := .long (lN (6))) (congrArg Value.long (by decide)) ?_
      refine rm_callSr (As := [.long ((nI (2)).toInt64), .long (lN (0)), .long (lN (6))]) (rest := []) (d2 := 0) dX12_told_14 zc_isIn rfl rfl (Nat.le_of_ble_eq_true rfl) (Nat.le_of_ble_eq_true rfl) (by decide) (tm_isIn _ _ _) ?_
      refine mn_top (u := .int (nI (Bool.toNat (true)))) (congrArg Value.int (in_t (a := 0) (b := 6) (by decide) (by decide) (by omega) (by omega) (by decide))) ?_
      refine mn_ifB_ne (tgt := 23) dX12_told_17 (by decide) (fun c17 => ?_) (fun c17 => ?_)
      · refine mm_iload_n dX12_told_23 rfl 2 rfl ?_
        refine mm_tableIn (off := 54) (tgt := 78) dX12_told_24 (by decide) (by decide) (by decide) (by decide) ?_
        refine mm_aload_n dX12_told_78 rfl 0 rfl ?_
        refine rm_getA 1 dX12_told_79 ha zf_signOf (by decide) rfl ?_
        refine mm_iload_n dX12_told_82 rfl 1 rfl ?_
        refine rm_iald (k := 1) dX12_told_83 ha rfl rfl rfl (show n < 6 from (by omega)) ?_
        refine mn_top (u := .int (nI (aSg s n))) (congrArg Value.int (v1)) ?_
        refine rm_callSr (As := [.int (nI (aSg s n))]) (rest := []) (d2 := 1) dX12_told_84 zc_groundOf rfl rfl (Nat.le_of_ble_eq_true rfl) (Nat.le_of_ble_eq_true rfl) (by decide) (tm_groundOf w1) ?_
        exact mm_iret dX12_told_87 rfl (⟨rfl, rfl⟩)
      · cases c17
  · refine mm_aload_n dX12_told_0 rfl 0 rfl ?_
    refine mm_iload_n dX12_told_1 rfl 1 rfl ?_
    refine rm_callVr (As := [.int (nI (n))]) (rest := []) (d2 := 1) dX12_told_2 ha zc_isVoice zc_isVoice_s rfl rfl rfl (Nat.le_of_ble_eq_true rfl) (Nat.le_of_ble_eq_true rfl) (by decide) (tM_isVoice ha hW hI (nI_inb hn (by have := hW.1.1; omega))) ?_
    refine mn_ifB_eq (tgt := 20) dX12_told_5 (by decide) (fun c5 => ?_) (fun c5 => ?_)
    · cases c5
    · refine mm_iload_n dX12_told_8 rfl 2 rfl ?_
      refine mm_i2l dX12_told_9 ?_
      refine mm_lconst (v := lN 0) dX12_told_10 (by decide) ?_
      refine mm_ldc2 (v := (6)) dX12_told_11 zk_133 ?_
      refine mn_top (u := .long (lN (6))) (congrArg Value.long (by decide)) ?_
      refine rm_callSr (As := [.long ((nI (3)).toInt64), .long (lN (0)), .long (lN (6))]) (rest := []) (d2 := 0) dX12_told_14 zc_isIn rfl rfl (Nat.le_of_ble_eq_true rfl) (Nat.le_of_ble_eq_true rfl) (by decide) (tm_isIn _ _ _) ?_
      refine mn_top (u := .int (nI (Bool.toNat (true)))) (congrArg Value.int (in_t (a := 0) (b := 6) (by decide) (by decide) (by omega) (by omega) (by decide))) ?_
      refine mn_ifB_ne (tgt := 23) dX12_told_17 (by decide) (fun c17 => ?_) (fun c17 => ?_)
      · refine mm_iload_n dX12_told_23 rfl 2 rfl ?_
        refine mm_tableIn (off := 64) (tgt := 88) dX12_told_24 (by decide) (by decide) (by decide) (by decide) ?_
        refine mm_aload_n dX12_told_88 rfl 0 rfl ?_
        refine rm_getA 3 dX12_told_89 ha zf_upOf (by decide) rfl ?_
        refine mm_iload_n dX12_told_92 rfl 1 rfl ?_
        refine rm_iald (k := 3) dX12_told_93 ha rfl rfl rfl (show n < 6 from (by omega)) ?_
        refine mn_top (u := .int (nI (aUp s n))) (congrArg Value.int (v3)) ?_
        exact mm_iret dX12_told_94 rfl (⟨rfl, rfl⟩)
      · cases c17
  · refine mm_aload_n dX12_told_0 rfl 0 rfl ?_
    refine mm_iload_n dX12_told_1 rfl 1 rfl ?_
    refine rm_callVr (As := [.int (nI (n))]) (rest := []) (d2 := 1) dX12_told_2 ha zc_isVoice zc_isVoice_s rfl rfl rfl (Nat.le_of_ble_eq_true rfl) (Nat.le_of_ble_eq_true rfl) (by decide) (tM_isVoice ha hW hI (nI_inb hn (by have := hW.1.1; omega))) ?_
    refine mn_ifB_eq (tgt := 20) dX12_told_5 (by decide) (fun c5 => ?_) (fun c5 => ?_)
    · cases c5
    · refine mm_iload_n dX12_told_8 rfl 2 rfl ?_
      refine mm_i2l dX12_told_9 ?_
      refine mm_lconst (v := lN 0) dX12_told_10 (by decide) ?_
      refine mm_ldc2 (v := (6)) dX12_told_11 zk_133 ?_
      refine mn_top (u := .long (lN (6))) (congrArg Value.long (by decide)) ?_
      refine rm_callSr (As := [.long ((nI (4)).toInt64), .long (lN (0)), .long (lN (6))]) (rest := []) (d2 := 0) dX12_told_14 zc_isIn rfl rfl (Nat.le_of_ble_eq_true rfl) (Nat.le_of_ble_eq_true rfl) (by decide) (tm_isIn _ _ _) ?_
      refine mn_top (u := .int (nI (Bool.toNat (true)))) (congrArg Value.int (in_t (a := 0) (b := 6) (by decide) (by decide) (by omega) (by omega) (by decide))) ?_
      refine mn_ifB_ne (tgt := 23) dX12_told_17 (by decide) (fun c17 => ?_) (fun c17 => ?_)
      · refine mm_iload_n dX12_told_23 rfl 2 rfl ?_
        refine mm_tableIn (off := 71) (tgt := 95) dX12_told_24 (by decide) (by decide) (by decide) (by decide) ?_
        refine mm_aload_n dX12_told_95 rfl 0 rfl ?_
        refine rm_getA 4 dX12_told_96 ha zf_downOf (by decide) rfl ?_
        refine mm_iload_n dX12_told_99 rfl 1 rfl ?_
        refine rm_iald (k := 4) dX12_told_100 ha rfl rfl rfl (show n < 6 from (by omega)) ?_
        refine mn_top (u := .int (nI (aDn s n))) (congrArg Value.int (v4)) ?_
        exact mm_iret dX12_told_101 rfl (⟨rfl, rfl⟩)
      · cases c17
  · refine mm_aload_n dX12_told_0 rfl 0 rfl ?_
    refine mm_iload_n dX12_told_1 rfl 1 rfl ?_
    refine rm_callVr (As := [.int (nI (n))]) (rest := []) (d2 := 1) dX12_told_2 ha zc_isVoice zc_isVoice_s rfl rfl rfl (Nat.le_of_ble_eq_true rfl) (Nat.le_of_ble_eq_true rfl) (by decide) (tM_isVoice ha hW hI (nI_inb hn (by have := hW.1.1; omega))) ?_
    refine mn_ifB_eq (tgt := 20) dX12_told_5 (by decide) (fun c5 => ?_) (fun c5 => ?_)
    · cases c5
    · refine mm_iload_n dX12_told_8 rfl 2 rfl ?_
      refine mm_i2l dX12_told_9 ?_
      refine mm_lconst (v := lN 0) dX12_told_10 (by decide) ?_
      refine mm_ldc2 (v := (6)) dX12_told_11 zk_133 ?_
      refine mn_top (u := .long (lN (6))) (congrArg Value.long (by decide)) ?_
      refine rm_callSr (As := [.long ((nI (5)).toInt64), .long (lN (0)), .long (lN (6))]) (rest := []) (d2 := 0) dX12_told_14 zc_isIn rfl rfl (Nat.le_of_ble_eq_true rfl) (Nat.le_of_ble_eq_true rfl) (by decide) (tm_isIn _ _ _) ?_
      refine mn_top (u := .int (nI (Bool.toNat (true)))) (congrArg Value.int (in_t (a := 0) (b := 6) (by decide) (by decide) (by omega) (by omega) (by decide))) ?_
      refine mn_ifB_ne (tgt := 23) dX12_told_17 (by decide) (fun c17 => ?_) (fun c17 => ?_)
      · refine mm_iload_n dX12_told_23 rfl 2 rfl ?_
        refine mm_tableIn (off := 78) (tgt := 102) dX12_told_24 (by decide) (by decide) (by decide) (by decide) ?_
        refine mm_aload_n dX12_told_102 rfl 0 rfl ?_
        refine rm_getA 5 dX12_told_103 ha zf_pickedOf (by decide) rfl ?_
        refine mm_iload_n dX12_told_106 rfl 1 rfl ?_
        refine rm_iald (k := 5) dX12_told_107 ha rfl rfl rfl (show n < 6 from (by omega)) ?_
        refine mn_top (u := .int (nI (aPk s n))) (congrArg Value.int (v5)) ?_
        exact mm_iret dX12_told_108 rfl (⟨rfl, rfl⟩)
      · cases c17
  · refine mm_aload_n dX12_told_0 rfl 0 rfl ?_
    refine mm_iload_n dX12_told_1 rfl 1 rfl ?_
    refine rm_callVr (As := [.int (nI (n))]) (rest := []) (d2 := 1) dX12_told_2 ha zc_isVoice zc_isVoice_s rfl rfl rfl (Nat.le_of_ble_eq_true rfl) (Nat.le_of_ble_eq_true rfl) (by decide) (tM_isVoice ha hW hI (nI_inb hn (by have := hW.1.1; omega))) ?_
    refine mn_ifB_eq (tgt := 20) dX12_told_5 (by decide) (fun c5 => ?_) (fun c5 => ?_)
    · cases c5
    · refine mm_iload_n dX12_told_8 rfl 2 rfl ?_
      refine mm_i2l dX12_told_9 ?_
      refine mm_lconst (v := lN 0) dX12_told_10 (by decide) ?_
      refine mm_ldc2 (v := (6)) dX12_told_11 zk_133 ?_
      refine mn_top (u := .long (lN (6))) (congrArg Value.long (by decide)) ?_
      refine rm_callSr (As := [.long ((nI (6)).toInt64), .long (lN (0)), .long (lN (6))]) (rest := []) (d2 := 0) dX12_told_14 zc_isIn rfl rfl (Nat.le_of_ble_eq_true rfl) (Nat.le_of_ble_eq_true rfl) (by decide) (tm_isIn _ _ _) ?_
      refine mn_top (u := .int (nI (Bool.toNat (true)))) (congrArg Value.int (in_t (a := 0) (b := 6) (by decide) (by decide) (by omega) (by omega) (by decide))) ?_
      refine mn_ifB_ne (tgt := 23) dX12_told_17 (by decide) (fun c17 => ?_) (fun c17 => ?_)
      · refine mm_iload_n dX12_told_23 rfl 2 rfl ?_
        refine mm_tableOut (tgt := 109) dX12_told_24 (by decide) (by decide) ?_
        refine mm_aload_n dX12_told_109 rfl 0 rfl ?_
        refine rm_getA 1 dX12_told_110 ha zf_signOf (by decide) rfl ?_
        refine mm_iload_n dX12_told_113 rfl 1 rfl ?_
        refine rm_iald (k := 1) dX12_told_114 ha rfl rfl rfl (show n < 6 from (by omega)) ?_
        refine mn_top (u := .int (nI (aSg s n))) (congrArg Value.int (v1)) ?_
        refine mm_aload_n dX12_told_115 rfl 0 rfl ?_
        refine rm_getA 1 dX12_told_116 ha zf_signOf (by decide) rfl ?_
        refine mm_iload_n dX12_told_119 rfl 1 rfl ?_
        refine rm_iald (k := 1) dX12_told_120 ha rfl rfl rfl (show n < 6 from (by omega)) ?_
        refine mn_top (u := .int (nI (aSg s n))) (congrArg Value.int (v1)) ?_
        refine rm_callSr (As := [.int (nI (aSg s n))]) (rest := [.int (nI (aSg s n))]) (d2 := 1) dX12_told_121 zc_groundOf rfl rfl (Nat.le_of_ble_eq_true rfl) (Nat.le_of_ble_eq_true rfl) (by decide) (tm_groundOf w1) ?_
        refine rm_callSr (As := [.int (nI (aSg s n)), .int (nI (gd_ (aSg s n)))]) (rest := []) (d2 := 1) dX12_told_124 zc_fullOf rfl rfl (Nat.le_of_ble_eq_true rfl) (Nat.le_of_ble_eq_true rfl) (by decide) (tm_fullOf w1 (by have := (gd_perf _ w1).1; omega)) ?_
        exact mm_iret dX12_told_127 rfl (⟨rfl, rfl⟩)
      · cases c17
set_option maxRecDepth 100000 in
set_option maxHeartbeats 4000000 in
theorem tM_toldO {l : Launch} {D : va_G} {aa : Nat → ClassId} {b0 : Nat} {h : mm_H} {o : Nat} {F : Nat → Int32} {G : Nat → Int64} {A : Nat → Nat → Int32} {B : Nat → Nat → Int64} {s : aS} {n : Nat} {w : Int32} (ha : rm_at o F G A B h) (hW : WF s) (hI : RI s F A B) (hn : n < aNv s) (hw : w < 0 ∨ nI 7 ≤ w) : mm_V (zz_K l D aa b0) 3 yX12_told cX12_told 3 (some .int) 0 [(0, .ref (o)), (1, .int (nI (n))), (2, .int (w))] [] h 0 0 (fun r h' => h' = h ∧ r = some (.int (-2))) := by
  have hf : rm_fr o h h := rm_fr.rf
  have hn6 : n < 6 := by have := hW.1.1; omega
  have hvok := hW.2.1 n hn6
  have hsz24 : aSz s n ≤ 24 := hvok.1.2
  obtain ⟨⟨v1, w1⟩, ⟨v2, w2⟩, ⟨v3, w3⟩, ⟨v4, w4⟩, v5, w5⟩ := hI.1.2 n hn6
  refine mm_aload_n dX12_told_0 rfl 0 rfl ?_
  refine mm_iload_n dX12_told_1 rfl 1 rfl ?_
  refine rm_callVr (As := [.int (nI (n))]) (rest := []) (d2 := 1) dX12_told_2 ha zc_isVoice zc_isVoice_s rfl rfl rfl (Nat.le_of_ble_eq_true rfl) (Nat.le_of_ble_eq_true rfl) (by decide) (tM_isVoice ha hW hI (nI_inb hn (by have := hW.1.1; omega))) ?_
  refine mn_ifB_eq (tgt := 20) dX12_told_5 (by decide) (fun c5 => ?_) (fun c5 => ?_)
  · cases c5
  · refine mm_iload_n dX12_told_8 rfl 2 rfl ?_
    refine mm_i2l dX12_told_9 ?_
    refine mm_lconst (v := lN 0) dX12_told_10 (by decide) ?_
    refine mm_ldc2 (v := (6)) dX12_told_11 zk_133 ?_
    refine mn_top (u := .long (lN (6))) (congrArg Value.long (by decide)) ?_
    refine rm_callSr (As := [.long ((w).toInt64), .long (lN (0)), .long (lN (6))]) (rest := []) (d2 := 0) dX12_told_14 zc_isIn rfl rfl (Nat.le_of_ble_eq_true rfl) (Nat.le_of_ble_eq_true rfl) (by decide) (tm_isIn _ _ _) ?_
    refine mn_top (u := .int (nI (Bool.toNat (false)))) (congrArg Value.int (in_f (a := 0) (b := 6) (by decide) (by decide) (by omega) (by omega) (fun q => by have := i32_out (by decide) hw; omega))) ?_
    refine mn_ifB_ne (tgt := 23) dX12_told_17 (by decide) (fun c17 => ?_) (fun c17 => ?_)
    · cases c17
    · refine mm_bipush (v := (-2)) dX12_told_20 (by decide) ?_
      exact mm_iret dX12_told_22 rfl (⟨rfl, rfl⟩)
