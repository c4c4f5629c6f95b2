/-! the reference: no such voice -/
set_option maxRecDepth 100000 in
set_option maxHeartbeats 4000000 in
theorem tM_findN {l : Launch} {D : va_G} {aa : Nat → ClassId} {b0 : Nat} {h : mm_H} {o : Nat} {F : Nat → Int32} {G : Nat → Int64} {A : Nat → Nat → Int32} {B : Nat → Nat → Int64}  {s : aS} {v : Int32} {r : Int32} (ha : rm_at o F G A B h) (hW : WF s) (hI : RI s F A B) (hv : v < 0 ∨ nI (aNv s) ≤ v) : mm_V (zz_K l D aa b0) 2 yX12_find cX12_find 4 (some .int) 0 [(0, .ref (o)), (1, .int (v)), (2, .int (r))] [] h 0 0 (fun r' h' => h' = h ∧ r' = some (.int (-2))) := by
  refine mm_aload_n dX12_find_0 rfl 0 rfl ?_
  refine mm_iload_n dX12_find_1 rfl 1 rfl ?_
  refine rm_callVr (As := [.int (v)]) (rest := []) (d2 := 1) dX12_find_2 ha zc_isVoice zc_isVoice_s rfl rfl rfl (Nat.le_of_ble_eq_true rfl) (Nat.le_of_ble_eq_true rfl) (by decide) (tM_isVoiceN ha hW hI hv) ?_
  refine mn_ifB_ne (tgt := 11) dX12_find_5 (by decide) (fun c5 => ?_) (fun c5 => ?_)
  · cases c5
  · refine mm_bipush (v := (-2)) dX12_find_8 (by decide) ?_
    exact mm_iret dX12_find_10 rfl (⟨rfl, rfl⟩)
set_option maxRecDepth 100000 in
set_option maxHeartbeats 4000000 in
theorem tM_strainedN {l : Launch} {D : va_G} {aa : Nat → ClassId} {b0 : Nat} {h : mm_H} {o : Nat} {F : Nat → Int32} {G : Nat → Int64} {A : Nat → Nat → Int32} {B : Nat → Nat → Int64}  {s : aS} {v : Int32} {r : Int32} (ha : rm_at o F G A B h) (hW : WF s) (hI : RI s F A B) (hv : v < 0 ∨ nI (aNv s) ≤ v) : mm_V (zz_K l D aa b0) 3 yX12_strained cX12_strained 4 (some .int) 0 [(0, .ref (o)), (1, .int (v)), (2, .int (r))] [] h 0 0 (fun r' h' => h' = h ∧ r' = some (.int (-2))) := by
  refine mm_aload_n dX12_strained_0 rfl 0 rfl ?_
  refine mm_iload_n dX12_strained_1 rfl 1 rfl ?_
  refine mm_iload_n dX12_strained_2 rfl 2 rfl ?_
  refine rm_callVr (As := [.int (v), .int (r)]) (rest := []) (d2 := 2) dX12_strained_3 ha zc_find zc_find_s rfl rfl rfl (Nat.le_of_ble_eq_true rfl) (Nat.le_of_ble_eq_true rfl) (by decide) (tM_findN ha hW hI hv) ?_
  refine mm_istore_n (L' := [(3, .int ((-2))), (0, .ref (o)), (1, .int (v)), (2, .int (r))]) dX12_strained_6 rfl (by decide) rfl ?_
  refine mm_iload_n dX12_strained_7 rfl 0 rfl ?_
  refine mm_if_ge (tgt := 15) dX12_strained_8 (by decide) (fun c8 => ?_) (fun c8 => ?_)
  · exact absurd c8 (by decide)
  · refine mm_iload_n dX12_strained_11 rfl 0 rfl ?_
    refine mm_goto (tgt := 21) dX12_strained_12 (by decide) ?_
    exact mm_iret dX12_strained_21 rfl (⟨rfl, rfl⟩)
set_option maxRecDepth 100000 in
set_option maxHeartbeats 4000000 in
theorem tM_formN {l : Launch} {D : va_G} {aa : Nat → ClassId} {b0 : Nat} {h : mm_H} {o : Nat} {F : Nat → Int32} {G : Nat → Int64} {A : Nat → Nat → Int32} {B : Nat → Nat → Int64}  {s : aS} {v : Int32} {r i : Int32} (ha : rm_at o F G A B h) (hW : WF s) (hI : RI s F A B) (hv : v < 0 ∨ nI (aNv s) ≤ v) : mm_V (zz_K l D aa b0) 3 yX12_form cX12_form 5 (some .int) 0 [(0, .ref (o)), (1, .int (v)), (2, .int (r)), (3, .int (i))] [] h 0 0 (fun r' h' => h' = h ∧ r' = some (.int (-2))) := by
  refine mm_aload_n dX12_form_0 rfl 0 rfl ?_
  refine mm_iload_n dX12_form_1 rfl 1 rfl ?_
  refine mm_iload_n dX12_form_2 rfl 2 rfl ?_
  refine rm_callVr (As := [.int (v), .int (r)]) (rest := []) (d2 := 2) dX12_form_3 ha zc_find zc_find_s rfl rfl rfl (Nat.le_of_ble_eq_true rfl) (Nat.le_of_ble_eq_true rfl) (by decide) (tM_findN ha hW hI hv) ?_
  refine mm_istore (L' := [(4, .int ((-2))), (0, .ref (o)), (1, .int (v)), (2, .int (r)), (3, .int (i))]) dX12_form_6 (by decide) rfl ?_
  refine mm_iload dX12_form_8 0 rfl ?_
  refine mm_if_ge (tgt := 18) dX12_form_10 (by decide) (fun c10 => ?_) (fun c10 => ?_)
  · exact absurd c10 (by decide)
  · refine mm_iload dX12_form_13 0 rfl ?_
    refine mm_goto (tgt := 53) dX12_form_15 (by decide) ?_
    exact mm_iret dX12_form_53 rfl (⟨rfl, rfl⟩)
set_option maxRecDepth 100000 in
set_option maxHeartbeats 4000000 in
theorem tM_valueN {l : Launch} {D : va_G} {aa : Nat → ClassId} {b0 : Nat} {h : mm_H} {o : Nat} {F : Nat → Int32} {G : Nat → Int64} {A : Nat → Nat → Int32} {B : Nat → Nat → Int64}  {s : aS} {v : Int32} {r i : Int32} (ha : rm_at o F G A B h) (hW : WF s) (hI : RI s F A B) (hv : v < 0 ∨ nI (aNv s) ≤ v) : mm_V (zz_K l D aa b0) 3 yX12_value cX12_value 5 (some .int) 0 [(0, .ref (o)), (1, .int (v)), (2, .int (r)), (3, .int (i))] [] h 0 0 (fun r' h' => h' = h ∧ r' = some (.int (-2))) := by
  refine mm_aload_n dX12_value_0 rfl 0 rfl ?_
  refine mm_iload_n dX12_value_1 rfl 1 rfl ?_
  refine mm_iload_n dX12_value_2 rfl 2 rfl ?_
  refine rm_callVr (As := [.int (v), .int (r)]) (rest := []) (d2 := 2) dX12_value_3 ha zc_find zc_find_s rfl rfl rfl (Nat.le_of_ble_eq_true rfl) (Nat.le_of_ble_eq_true rfl) (by decide) (tM_findN ha hW hI hv) ?_
  refine mm_istore (L' := [(4, .int ((-2))), (0, .ref (o)), (1, .int (v)), (2, .int (r)), (3, .int (i))]) dX12_value_6 (by decide) rfl ?_
  refine mm_iload dX12_value_8 0 rfl ?_
  refine mm_if_ge (tgt := 18) dX12_value_10 (by decide) (fun c10 => ?_) (fun c10 => ?_)
  · exact absurd c10 (by decide)
  · refine mm_iload dX12_value_13 0 rfl ?_
    refine mm_goto (tgt := 52) dX12_value_15 (by decide) ?_
    exact mm_iret dX12_value_52 rfl (⟨rfl, rfl⟩)
set_option maxRecDepth 100000 in
set_option maxHeartbeats 4000000 in
theorem tM_pickN {l : Launch} {D : va_G} {aa : Nat → ClassId} {b0 : Nat} {h : mm_H} {o : Nat} {F : Nat → Int32} {G : Nat → Int64} {A : Nat → Nat → Int32} {B : Nat → Nat → Int64}  {s : aS} {v : Int32} {r : Int32} (ha : rm_at o F G A B h) (hW : WF s) (hI : RI s F A B) (hv : v < 0 ∨ nI (aNv s) ≤ v) : mm_V (zz_K l D aa b0) 3 yX12_pick cX12_pick 5 (some .int) 0 [(0, .ref (o)), (1, .int (v)), (2, .int (r))] [] h 0 0 (fun r' h' => h' = h ∧ r' = some (.int (-2))) := by
  refine mm_aload_n dX12_pick_0 rfl 0 rfl ?_
  refine mm_iload_n dX12_pick_1 rfl 1 rfl ?_
  refine mm_iload_n dX12_pick_2 rfl 2 rfl ?_
  refine rm_callVr (As := [.int (v), .int (r)]) (rest := []) (d2 := 2) dX12_pick_3 ha zc_find zc_find_s rfl rfl rfl (Nat.le_of_ble_eq_true rfl) (Nat.le_of_ble_eq_true rfl) (by decide) (tM_findN ha hW hI hv) ?_
  refine mm_istore_n (L' := [(3, .int ((-2))), (0, .ref (o)), (1, .int (v)), (2, .int (r))]) dX12_pick_6 rfl (by decide) rfl ?_
  refine mm_iload_n dX12_pick_7 rfl 0 rfl ?_
  refine mm_if_ge (tgt := 13) dX12_pick_8 (by decide) (fun c8 => ?_) (fun c8 => ?_)
  · exact absurd c8 (by decide)
  · refine mm_iload_n dX12_pick_11 rfl 0 rfl ?_
    exact mm_iret dX12_pick_12 rfl (⟨rfl, rfl⟩)
