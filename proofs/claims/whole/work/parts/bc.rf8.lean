/-! the reference: followers told, voices that end together -/
set_option maxRecDepth 100000 in
set_option maxHeartbeats 4000000 in
theorem tM_followerF {l : Launch} {D : va_G} {aa : Nat → ClassId} {b0 : Nat} {h : mm_H} {o : Nat} {F : Nat → Int32} {G : Nat → Int64} {A : Nat → Nat → Int32} {B : Nat → Nat → Int64} {s : aS} {f i w : Int32} (ha : rm_at o F G A B h) (hW : WF s) (hI : RI s F A B) (hb : f < 0 ∨ nI (aNf s) ≤ f) : mm_V (zz_K l D aa b0) 3 yX12_follower cX12_follower 4 (some .long) 0 [(0, .ref (o)), (1, .int (f)), (2, .int (i)), (3, .int (w))] [] h 0 0 (fun r h' => h' = h ∧ r = some (.long (-2))) := by
  have hf : rm_fr o h h := rm_fr.rf
  have hnf6 := hW.1.2.1
  refine mm_iload_n dX12_follower_0 rfl 1 rfl ?_
  refine mm_i2l dX12_follower_1 ?_
  refine mm_lconst (v := lN 0) dX12_follower_2 (by decide) ?_
  refine mm_aload_n dX12_follower_3 rfl 0 rfl ?_
  refine rm_getI 48 dX12_follower_4 ha zf_followers (by decide) rfl rfl ?_
  refine mn_top (u := .int (nI (aNf s))) (congrArg Value.int ((hI.2.2.2.2.1.1))) ?_
  refine mm_iconst (v := nI 1) dX12_follower_7 (by decide) ?_
  refine mm_isub dX12_follower_8 ?_
  refine mm_i2l dX12_follower_9 ?_
  refine rm_callSr (As := [.long ((f).toInt64), .long (lN (0)), .long (((nI (aNf s)) - (nI (1))).toInt64)]) (rest := []) (d2 := 0) dX12_follower_10 zc_isIn rfl rfl (Nat.le_of_ble_eq_true rfl) (Nat.le_of_ble_eq_true rfl) (by decide) (tm_isIn _ _ _) ?_
  refine mn_top (u := .int (nI (Bool.toNat (false)))) (congrArg Value.int (in_f (a := 0) (b := (aNf s : Int) - 1) (by decide) (in_s (by omega)) (by omega) (by omega) (out_in (by omega) hb))) ?_
  refine mn_ifB_eq (tgt := 28) dX12_follower_13 (by decide) (fun c13 => ?_) (fun c13 => ?_)
  · refine mm_ldc2 (v := (-2)) dX12_follower_28 zk_346 ?_
    exact mm_lret dX12_follower_31 rfl (⟨rfl, rfl⟩)
  · cases c13
set_option maxRecDepth 100000 in
set_option maxHeartbeats 4000000 in
theorem tM_followerW {l : Launch} {D : va_G} {aa : Nat → ClassId} {b0 : Nat} {h : mm_H} {o : Nat} {F : Nat → Int32} {G : Nat → Int64} {A : Nat → Nat → Int32} {B : Nat → Nat → Int64} {s : aS} {f i w : Int32} (ha : rm_at o F G A B h) (hW : WF s) (hI : RI s F A B) (hfi : (0 : Int) ≤ f.toInt ∧ f.toInt ≤ (aNf s : Int) - 1) (hb : w < 0 ∨ nI 5 ≤ w) : mm_V (zz_K l D aa b0) 3 yX12_follower cX12_follower 4 (some .long) 0 [(0, .ref (o)), (1, .int (f)), (2, .int (i)), (3, .int (w))] [] h 0 0 (fun r h' => h' = h ∧ r = some (.long (-2))) := by
  have hf : rm_fr o h h := rm_fr.rf
  have hnf6 := hW.1.2.1
  refine mm_iload_n dX12_follower_0 rfl 1 rfl ?_
  refine mm_i2l dX12_follower_1 ?_
  refine mm_lconst (v := lN 0) dX12_follower_2 (by decide) ?_
  refine mm_aload_n dX12_follower_3 rfl 0 rfl ?_
  refine rm_getI 48 dX12_follower_4 ha zf_followers (by decide) rfl rfl ?_
  refine mn_top (u := .int (nI (aNf s))) (congrArg Value.int ((hI.2.2.2.2.1.1))) ?_
  refine mm_iconst (v := nI 1) dX12_follower_7 (by decide) ?_
  refine mm_isub dX12_follower_8 ?_
  refine mm_i2l dX12_follower_9 ?_
  refine rm_callSr (As := [.long ((f).toInt64), .long (lN (0)), .long (((nI (aNf s)) - (nI (1))).toInt64)]) (rest := []) (d2 := 0) dX12_follower_10 zc_isIn rfl rfl (Nat.le_of_ble_eq_true rfl) (Nat.le_of_ble_eq_true rfl) (by decide) (tm_isIn _ _ _) ?_
  refine mn_top (u := .int (nI (Bool.toNat (true)))) (congrArg Value.int (in_t (a := 0) (b := (aNf s : Int) - 1) (by decide) (in_s (by omega)) (by omega) (by omega) (hfi))) ?_
  refine mn_ifB_eq (tgt := 28) dX12_follower_13 (by decide) (fun c13 => ?_) (fun c13 => ?_)
  · cases c13
  · refine mm_iload_n dX12_follower_16 rfl 3 rfl ?_
    refine mm_i2l dX12_follower_17 ?_
    refine mm_lconst (v := lN 0) dX12_follower_18 (by decide) ?_
    refine mm_ldc2 (v := (4)) dX12_follower_19 zk_366 ?_
    refine mn_top (u := .long (lN (4))) (congrArg Value.long (by decide)) ?_
    refine rm_callSr (As := [.long ((w).toInt64), .long (lN (0)), .long (lN (4))]) (rest := []) (d2 := 0) dX12_follower_22 zc_isIn rfl rfl (Nat.le_of_ble_eq_true rfl) (Nat.le_of_ble_eq_true rfl) (by decide) (tm_isIn _ _ _) ?_
    refine mn_top (u := .int (nI (Bool.toNat (false)))) (congrArg Value.int (in_f (a := 0) (b := 4) (by decide) (by decide) (by omega) (by omega) (fun q => by have := i32_out (by decide) hb; omega))) ?_
    refine mn_ifB_ne (tgt := 32) dX12_follower_25 (by decide) (fun c25 => ?_) (fun c25 => ?_)
    · cases c25
    · refine mm_ldc2 (v := (-2)) dX12_follower_28 zk_346 ?_
      exact mm_lret dX12_follower_31 rfl (⟨rfl, rfl⟩)
set_option maxRecDepth 100000 in
set_option maxHeartbeats 4000000 in
theorem tM_follower {l : Launch} {D : va_G} {aa : Nat → ClassId} {b0 : Nat} {h : mm_H} {o : Nat} {F : Nat → Int32} {G : Nat → Int64} {A : Nat → Nat → Int32} {B : Nat → Nat → Int64} {s : aS} {f i w : Nat} {e : fE} (ha : rm_at o F G A B h) (hW : WF s) (hI : RI s F A B) (hfn : f < aNf s) (hw : w < 5) (he : (aFl s f)[i]? = some e) : mm_V (zz_K l D aa b0) 3 yX12_follower cX12_follower 4 (some .long) 0 [(0, .ref (o)), (1, .int (nI (f))), (2, .int (nI (i))), (3, .int (nI (w)))] [] h 0 0 (fun r h' => h' = h ∧ r = some (.long (feA e w))) := by
  have hf : rm_fr o h h := rm_fr.rf
  have hnf6 := hW.1.2.1
  have hf6 : f < 6 := by omega
  obtain ⟨e1, e2⟩ := hI.2.2.2.2.1.2 f hf6
  have hl24 := (hW.2.2.1 f hf6).1
  have hil := get_lt he
  refine mm_iload_n dX12_follower_0 rfl 1 rfl ?_
  refine mm_i2l dX12_follower_1 ?_
  refine mm_lconst (v := lN 0) dX12_follower_2 (by decide) ?_
  refine mm_aload_n dX12_follower_3 rfl 0 rfl ?_
  refine rm_getI 48 dX12_follower_4 ha zf_followers (by decide) rfl rfl ?_
  refine mn_top (u := .int (nI (aNf s))) (congrArg Value.int ((hI.2.2.2.2.1.1))) ?_
  refine mm_iconst (v := nI 1) dX12_follower_7 (by decide) ?_
  refine mm_isub dX12_follower_8 ?_
  refine mm_i2l dX12_follower_9 ?_
  refine rm_callSr (As := [.long ((nI (f)).toInt64), .long (lN (0)), .long (((nI (aNf s)) - (nI (1))).toInt64)]) (rest := []) (d2 := 0) dX12_follower_10 zc_isIn rfl rfl (Nat.le_of_ble_eq_true rfl) (Nat.le_of_ble_eq_true rfl) (by decide) (tm_isIn _ _ _) ?_
  refine mn_top (u := .int (nI (Bool.toNat (true)))) (congrArg Value.int (in_t (a := 0) (b := (aNf s : Int) - 1) (by decide) (in_s (by omega)) (by omega) (by omega) (nI_inb hfn (by omega)))) ?_
  refine mn_ifB_eq (tgt := 28) dX12_follower_13 (by decide) (fun c13 => ?_) (fun c13 => ?_)
  · cases c13
  · refine mm_iload_n dX12_follower_16 rfl 3 rfl ?_
    refine mm_i2l dX12_follower_17 ?_
    refine mm_lconst (v := lN 0) dX12_follower_18 (by decide) ?_
    refine mm_ldc2 (v := (4)) dX12_follower_19 zk_366 ?_
    refine mn_top (u := .long (lN (4))) (congrArg Value.long (by decide)) ?_
    refine rm_callSr (As := [.long ((nI (w)).toInt64), .long (lN (0)), .long (lN (4))]) (rest := []) (d2 := 0) dX12_follower_22 zc_isIn rfl rfl (Nat.le_of_ble_eq_true rfl) (Nat.le_of_ble_eq_true rfl) (by decide) (tm_isIn _ _ _) ?_
    refine mn_top (u := .int (nI (Bool.toNat (true)))) (congrArg Value.int (in_t (a := 0) (b := 4) (by decide) (by decide) (by omega) (by omega) ((nI_inb hw (by decide)).imp id (fun z => by omega)))) ?_
    refine mn_ifB_ne (tgt := 32) dX12_follower_25 (by decide) (fun c25 => ?_) (fun c25 => ?_)
    · refine mm_iload_n dX12_follower_32 rfl 2 rfl ?_
      refine mm_i2l dX12_follower_33 ?_
      refine mm_lconst (v := lN 0) dX12_follower_34 (by decide) ?_
      refine mm_aload_n dX12_follower_35 rfl 0 rfl ?_
      refine rm_getA 49 dX12_follower_36 ha zf_followerSize (by decide) rfl ?_
      refine mm_iload_n dX12_follower_39 rfl 1 rfl ?_
      refine rm_iald (k := 49) dX12_follower_40 ha rfl rfl rfl (show f < 6 from (by omega)) ?_
      refine mn_top (u := .int (nI ((aFl s f).length))) (congrArg Value.int (e1)) ?_
      refine mm_iconst (v := nI 1) dX12_follower_41 (by decide) ?_
      refine mm_isub dX12_follower_42 ?_
      refine mm_i2l dX12_follower_43 ?_
      refine rm_callSr (As := [.long ((nI (i)).toInt64), .long (lN (0)), .long (((nI ((aFl s f).length)) - (nI (1))).toInt64)]) (rest := []) (d2 := 0) dX12_follower_44 zc_isIn rfl rfl (Nat.le_of_ble_eq_true rfl) (Nat.le_of_ble_eq_true rfl) (by decide) (tm_isIn _ _ _) ?_
      refine mn_top (u := .int (nI (Bool.toNat (true)))) (congrArg Value.int (in_t (a := 0) (b := ((aFl s f).length : Int) - 1) (by decide) (in_s (by omega)) (by omega) (by omega) (nI_inb hil (by omega)))) ?_
      refine mn_ifB_eq (tgt := 68) dX12_follower_47 (by decide) (fun c47 => ?_) (fun c47 => ?_)
      · cases c47
      · refine mm_aload_n dX12_follower_50 rfl 0 rfl ?_
        refine rm_getA 50 dX12_follower_51 ha zf_followerTold (by decide) rfl ?_
        refine mm_iconst (v := nI 5) dX12_follower_54 (by decide) ?_
        refine mm_bipush (v := nI 24) dX12_follower_55 (by decide) ?_
        refine mm_iload_n dX12_follower_57 rfl 1 rfl ?_
        refine mn_imul dX12_follower_58 ?_
        refine mm_iload_n dX12_follower_59 rfl 2 rfl ?_
        refine mn_iadd dX12_follower_60 ?_
        refine mn_imul dX12_follower_61 ?_
        refine mm_iload_n dX12_follower_62 rfl 3 rfl ?_
        refine mn_iadd dX12_follower_63 ?_
        refine rm_lald (k := 50) dX12_follower_64 ha rfl rfl rfl (show ((5) * (((24) * (f)) + (i))) + (w) < 720 from (by omega)) ?_
        refine mn_top (u := .long (feA e w)) (congrArg Value.long (e2 i e he w hw)) ?_
        refine mm_goto (tgt := 71) dX12_follower_65 (by decide) ?_
        exact mm_lret dX12_follower_71 rfl (⟨rfl, rfl⟩)
    · cases c25
set_option maxRecDepth 100000 in
set_option maxHeartbeats 4000000 in
theorem tM_followerI {l : Launch} {D : va_G} {aa : Nat → ClassId} {b0 : Nat} {h : mm_H} {o : Nat} {F : Nat → Int32} {G : Nat → Int64} {A : Nat → Nat → Int32} {B : Nat → Nat → Int64} {s : aS} {f w : Nat} {i : Int32} (ha : rm_at o F G A B h) (hW : WF s) (hI : RI s F A B) (hfn : f < aNf s) (hw : w < 5) (hi : i < 0 ∨ nI (aFl s f).length ≤ i) : mm_V (zz_K l D aa b0) 3 yX12_follower cX12_follower 4 (some .long) 0 [(0, .ref (o)), (1, .int (nI (f))), (2, .int (i)), (3, .int (nI (w)))] [] h 0 0 (fun r h' => h' = h ∧ r = some (.long (-1))) := by
  have hf : rm_fr o h h := rm_fr.rf
  have hnf6 := hW.1.2.1
  have hf6 : f < 6 := by omega
  obtain ⟨e1, e2⟩ := hI.2.2.2.2.1.2 f hf6
  have hl24 := (hW.2.2.1 f hf6).1
  refine mm_iload_n dX12_follower_0 rfl 1 rfl ?_
  refine mm_i2l dX12_follower_1 ?_
  refine mm_lconst (v := lN 0) dX12_follower_2 (by decide) ?_
  refine mm_aload_n dX12_follower_3 rfl 0 rfl ?_
  refine rm_getI 48 dX12_follower_4 ha zf_followers (by decide) rfl rfl ?_
  refine mn_top (u := .int (nI (aNf s))) (congrArg Value.int ((hI.2.2.2.2.1.1))) ?_
  refine mm_iconst (v := nI 1) dX12_follower_7 (by decide) ?_
  refine mm_isub dX12_follower_8 ?_
  refine mm_i2l dX12_follower_9 ?_
  refine rm_callSr (As := [.long ((nI (f)).toInt64), .long (lN (0)), .long (((nI (aNf s)) - (nI (1))).toInt64)]) (rest := []) (d2 := 0) dX12_follower_10 zc_isIn rfl rfl (Nat.le_of_ble_eq_true rfl) (Nat.le_of_ble_eq_true rfl) (by decide) (tm_isIn _ _ _) ?_
  refine mn_top (u := .int (nI (Bool.toNat (true)))) (congrArg Value.int (in_t (a := 0) (b := (aNf s : Int) - 1) (by decide) (in_s (by omega)) (by omega) (by omega) (nI_inb hfn (by omega)))) ?_
  refine mn_ifB_eq (tgt := 28) dX12_follower_13 (by decide) (fun c13 => ?_) (fun c13 => ?_)
  · cases c13
  · refine mm_iload_n dX12_follower_16 rfl 3 rfl ?_
    refine mm_i2l dX12_follower_17 ?_
    refine mm_lconst (v := lN 0) dX12_follower_18 (by decide) ?_
    refine mm_ldc2 (v := (4)) dX12_follower_19 zk_366 ?_
    refine mn_top (u := .long (lN (4))) (congrArg Value.long (by decide)) ?_
    refine rm_callSr (As := [.long ((nI (w)).toInt64), .long (lN (0)), .long (lN (4))]) (rest := []) (d2 := 0) dX12_follower_22 zc_isIn rfl rfl (Nat.le_of_ble_eq_true rfl) (Nat.le_of_ble_eq_true rfl) (by decide) (tm_isIn _ _ _) ?_
    refine mn_top (u := .int (nI (Bool.toNat (true)))) (congrArg Value.int (in_t (a := 0) (b := 4) (by decide) (by decide) (by omega) (by omega) ((nI_inb hw (by decide)).imp id (fun z => by omega)))) ?_
    refine mn_ifB_ne (tgt := 32) dX12_follower_25 (by decide) (fun c25 => ?_) (fun c25 => ?_)
    · refine mm_iload_n dX12_follower_32 rfl 2 rfl ?_
      refine mm_i2l dX12_follower_33 ?_
      refine mm_lconst (v := lN 0) dX12_follower_34 (by decide) ?_
      refine mm_aload_n dX12_follower_35 rfl 0 rfl ?_
      refine rm_getA 49 dX12_follower_36 ha zf_followerSize (by decide) rfl ?_
      refine mm_iload_n dX12_follower_39 rfl 1 rfl ?_
      refine rm_iald (k := 49) dX12_follower_40 ha rfl rfl rfl (show f < 6 from (by omega)) ?_
      refine mn_top (u := .int (nI ((aFl s f).length))) (congrArg Value.int (e1)) ?_
      refine mm_iconst (v := nI 1) dX12_follower_41 (by decide) ?_
      refine mm_isub dX12_follower_42 ?_
      refine mm_i2l dX12_follower_43 ?_
      refine rm_callSr (As := [.long ((i).toInt64), .long (lN (0)), .long (((nI ((aFl s f).length)) - (nI (1))).toInt64)]) (rest := []) (d2 := 0) dX12_follower_44 zc_isIn rfl rfl (Nat.le_of_ble_eq_true rfl) (Nat.le_of_ble_eq_true rfl) (by decide) (tm_isIn _ _ _) ?_
      refine mn_top (u := .int (nI (Bool.toNat (false)))) (congrArg Value.int (in_f (a := 0) (b := ((aFl s f).length : Int) - 1) (by decide) (in_s (by omega)) (by omega) (by omega) (out_in (by omega) hi))) ?_
      refine mn_ifB_eq (tgt := 68) dX12_follower_47 (by decide) (fun c47 => ?_) (fun c47 => ?_)
      · refine mm_ldc2 (v := (-1)) dX12_follower_68 zk_348 ?_
        exact mm_lret dX12_follower_71 rfl (⟨rfl, rfl⟩)
      · cases c47
    · cases c25
set_option maxRecDepth 100000 in
set_option maxHeartbeats 4000000 in
theorem tM_written {l : Launch} {D : va_G} {aa : Nat → ClassId} {b0 : Nat} {h : mm_H} {o : Nat} {F : Nat → Int32} {G : Nat → Int64} {A : Nat → Nat → Int32} {B : Nat → Nat → Int64} {s : aS} {i : Nat} (ha : rm_at o F G A B h) (hW : WF s) (hI : RI s F A B) (hi : i < aNw s) : mm_V (zz_K l D aa b0) 3 yX12_written cX12_written 2 (some .int) 0 [(0, .ref (o)), (1, .int (nI (i)))] [] h 0 0 (fun r h' => h' = h ∧ r = some (.int (nI (aWk s i)))) := by
  have hf : rm_fr o h h := rm_fr.rf
  have hnw6 := hW.1.2.2
  have e1 := (hI.2.2.2.2.2.2 i (by omega)).1
  refine mm_iload_n dX12_written_0 rfl 1 rfl ?_
  refine mm_i2l dX12_written_1 ?_
  refine mm_lconst (v := lN 0) dX12_written_2 (by decide) ?_
  refine mm_aload_n dX12_written_3 rfl 0 rfl ?_
  refine rm_getI 52 dX12_written_4 ha zf_writtenMany (by decide) rfl rfl ?_
  refine mn_top (u := .int (nI (aNw s))) (congrArg Value.int ((hI.2.2.2.2.2.1))) ?_
  refine mm_iconst (v := nI 1) dX12_written_7 (by decide) ?_
  refine mm_isub dX12_written_8 ?_
  refine mm_i2l dX12_written_9 ?_
  refine rm_callSr (As := [.long ((nI (i)).toInt64), .long (lN (0)), .long (((nI (aNw s)) - (nI (1))).toInt64)]) (rest := []) (d2 := 0) dX12_written_10 zc_isIn rfl rfl (Nat.le_of_ble_eq_true rfl) (Nat.le_of_ble_eq_true rfl) (by decide) (tm_isIn _ _ _) ?_
  refine mn_top (u := .int (nI (Bool.toNat (true)))) (congrArg Value.int (in_t (a := 0) (b := (aNw s : Int) - 1) (by decide) (in_s (by omega)) (by omega) (by omega) (nI_inb hi (by omega)))) ?_
  refine mn_ifB_eq (tgt := 25) dX12_written_13 (by decide) (fun c13 => ?_) (fun c13 => ?_)
  · cases c13
  · refine mm_aload_n dX12_written_16 rfl 0 rfl ?_
    refine rm_getA 51 dX12_written_17 ha zf_writtenKind (by decide) rfl ?_
    refine mm_iload_n dX12_written_20 rfl 1 rfl ?_
    refine rm_iald (k := 51) dX12_written_21 ha rfl rfl rfl (show i < 6 from (by omega)) ?_
    refine mn_top (u := .int (nI (aWk s i))) (congrArg Value.int (e1)) ?_
    refine mm_goto (tgt := 26) dX12_written_22 (by decide) ?_
    exact mm_iret dX12_written_26 rfl (⟨rfl, rfl⟩)
set_option maxRecDepth 100000 in
set_option maxHeartbeats 4000000 in
theorem tM_writtenN {l : Launch} {D : va_G} {aa : Nat → ClassId} {b0 : Nat} {h : mm_H} {o : Nat} {F : Nat → Int32} {G : Nat → Int64} {A : Nat → Nat → Int32} {B : Nat → Nat → Int64} {s : aS} {i : Int32} (ha : rm_at o F G A B h) (hW : WF s) (hI : RI s F A B) (hi : i < 0 ∨ nI (aNw s) ≤ i) : mm_V (zz_K l D aa b0) 3 yX12_written cX12_written 2 (some .int) 0 [(0, .ref (o)), (1, .int (i))] [] h 0 0 (fun r h' => h' = h ∧ r = some (.int (-1))) := by
  have hf : rm_fr o h h := rm_fr.rf
  have hnw6 := hW.1.2.2
  refine mm_iload_n dX12_written_0 rfl 1 rfl ?_
  refine mm_i2l dX12_written_1 ?_
  refine mm_lconst (v := lN 0) dX12_written_2 (by decide) ?_
  refine mm_aload_n dX12_written_3 rfl 0 rfl ?_
  refine rm_getI 52 dX12_written_4 ha zf_writtenMany (by decide) rfl rfl ?_
  refine mn_top (u := .int (nI (aNw s))) (congrArg Value.int ((hI.2.2.2.2.2.1))) ?_
  refine mm_iconst (v := nI 1) dX12_written_7 (by decide) ?_
  refine mm_isub dX12_written_8 ?_
  refine mm_i2l dX12_written_9 ?_
  refine rm_callSr (As := [.long ((i).toInt64), .long (lN (0)), .long (((nI (aNw s)) - (nI (1))).toInt64)]) (rest := []) (d2 := 0) dX12_written_10 zc_isIn rfl rfl (Nat.le_of_ble_eq_true rfl) (Nat.le_of_ble_eq_true rfl) (by decide) (tm_isIn _ _ _) ?_
  refine mn_top (u := .int (nI (Bool.toNat (false)))) (congrArg Value.int (in_f (a := 0) (b := (aNw s : Int) - 1) (by decide) (in_s (by omega)) (by omega) (by omega) (out_in (by omega) hi))) ?_
  refine mn_ifB_eq (tgt := 25) dX12_written_13 (by decide) (fun c13 => ?_) (fun c13 => ?_)
  · refine mm_iconst (v := (-1)) dX12_written_25 (by decide) ?_
    exact mm_iret dX12_written_26 rfl (⟨rfl, rfl⟩)
  · cases c13
set_option maxRecDepth 100000 in
set_option maxHeartbeats 4000000 in
theorem tM_together {l : Launch} {D : va_G} {aa : Nat → ClassId} {b0 : Nat} {h : mm_H} {o : Nat} {F : Nat → Int32} {G : Nat → Int64} {A : Nat → Nat → Int32} {B : Nat → Nat → Int64} {s : aS} (ha : rm_at o F G A B h) (hW : WF s) (hI : RI s F A B) : mm_V (zz_K l D aa b0) 10 yX12_together cX12_together 9 (some .int) 0 [(0, .ref (o))] [] h 0 0 (fun r h' => r = some (.int (tgA s)) ∧ ∃ (F' : Nat → Int32) (G' : Nat → Int64) (A' : Nat → Nat → Int32), rm_at o F' G' A' B h' ∧ rm_fr o h h' ∧ RI (s) F' A' B) := by
  have hf : rm_fr o h h := rm_fr.rf
  have lp : ∀ (m n fa fb : Nat) (F1 : Nat → Int32) (G1 : Nat → Int64) (A1 : Nat → Nat → Int32) (h1 : mm_H), n + m = aNv s → fa < 2 ^ 63 → fb < 2 ^ 63 → (0 < n → (tgk s n).2 = true → fa = (tgE s 0).1 ∧ fb = (tgE s 0).2) → RI s F1 A1 B → rm_at o F1 G1 A1 B h1 → rm_fr o h h1 → mm_V (zz_K l D aa b0) 10 yX12_together cX12_together 9 (some .int) 12 [(7, .int (nI (n))), (5, .long (lN (fb))), (3, .long (lN (fa))), (2, .int (nI (Bool.toNat ((tgk s n).1)))), (1, .int (nI (Bool.toNat ((tgk s n).2)))), (0, .ref (o))] [] h1 0 0 (fun r h' => r = some (.int (tgA s)) ∧ ∃ (F' : Nat → Int32) (G' : Nat → Int64) (A' : Nat → Nat → Int32), rm_at o F' G' A' B h' ∧ rm_fr o h h' ∧ RI (s) F' A' B) := by
    intro m
    induction m with
    | zero =>
      intro n fa fb F1 G1 A1 h1 hm hfa hfb hfl hI ha hf
      have hnv6 := hW.1.1
      refine mm_iload dX12_together_12 0 rfl ?_
      refine mm_aload_n dX12_together_14 rfl 5 rfl ?_
      refine rm_getI 0 dX12_together_15 ha zf_voices (by decide) rfl rfl ?_
      refine mn_top (u := .int (nI (aNv s))) (congrArg Value.int ((hI.1.1.1))) ?_
      refine mn_icmp_ge (tgt := 129) dX12_together_18 (by decide) (by omega) (by omega) (fun c18 => ?_) (fun c18 => ?_)
      · have e : n = aNv s := by omega
        rw [e]
        refine mm_iload_n dX12_together_129 rfl 3 rfl ?_
        refine mn_ifB_eq (tgt := 138) dX12_together_130 (by decide) (fun c130 => ?_) (fun c130 => ?_)
        · refine mm_iload_n dX12_together_138 rfl 4 rfl ?_
          refine mn_ifB_eq (tgt := 146) dX12_together_139 (by decide) (fun c139 => ?_) (fun c139 => ?_)
          · refine mm_iconst (v := nI 0) dX12_together_146 (by decide) ?_
            exact mm_iret dX12_together_147 rfl (⟨by unfold tgA; rw [if_neg (by rw [c130]; decide), c139]; rfl, F1, G1, A1, ha, hf, hI⟩)
          · refine mm_iconst (v := nI 1) dX12_together_142 (by decide) ?_
            refine mm_goto (tgt := 147) dX12_together_143 (by decide) ?_
            exact mm_iret dX12_together_147 rfl (⟨by unfold tgA; rw [if_neg (by rw [c130]; decide), c139]; rfl, F1, G1, A1, ha, hf, hI⟩)
        · refine mm_bipush (v := (-4)) dX12_together_133 (by decide) ?_
          refine mm_goto (tgt := 147) dX12_together_135 (by decide) ?_
          exact mm_iret dX12_together_147 rfl (⟨by unfold tgA; rw [if_pos c130], F1, G1, A1, ha, hf, hI⟩)
      · omega
    | succ m ih =>
      intro n fa fb F1 G1 A1 h1 hm hfa hfb hfl hI ha hf
      have hnv6 := hW.1.1
      have hn : n < aNv s := by omega
      have hn6 : n < 6 := by have := hW.1.1; omega
      have hvok := hW.2.1 n hn6
      have hsz24 : aSz s n ≤ 24 := hvok.1.2
      obtain ⟨⟨v1, w1⟩, ⟨v2, w2⟩, ⟨v3, w3⟩, ⟨v4, w4⟩, v5, w5⟩ := hI.1.2 n hn6
      have tk1 : (tgk s (n + 1)).1 = ((tgk s n).1 || decide (1000 < (aR s n).length)) := rfl
      have tk2 : (tgk s (n + 1)).2 = ((tgk s n).2 && (decide (pfA (aR s n).length = 0) && (decide (n = 0) || decide (tgE s n = tgE s 0)))) := rfl
      have j123 : ∀ (fa2 fb2 : Nat) (F2 : Nat → Int32) (G2 : Nat → Int64) (A2 : Nat → Nat → Int32) (h2 : mm_H), fa2 < 2 ^ 63 → fb2 < 2 ^ 63 → ((tgk s (n + 1)).2 = true → fa2 = (tgE s 0).1 ∧ fb2 = (tgE s 0).2) → RI s F2 A2 B → rm_at o F2 G2 A2 B h2 → rm_fr o h h2 → mm_V (zz_K l D aa b0) 10 yX12_together cX12_together 9 (some .int) 123 [(7, .int (nI (n))), (5, .long (lN (fb2))), (3, .long (lN (fa2))), (2, .int (nI (Bool.toNat ((tgk s (n + 1)).1)))), (1, .int (nI (Bool.toNat ((tgk s (n + 1)).2)))), (0, .ref (o))] [] h2 0 0 (fun r h' => r = some (.int (tgA s)) ∧ ∃ (F' : Nat → Int32) (G' : Nat → Int64) (A' : Nat → Nat → Int32), rm_at o F' G' A' B h' ∧ rm_fr o h h' ∧ RI (s) F' A' B) := by
        intro fa2 fb2 F2 G2 A2 h2 q1 q2 q3 hI2 ha2 hf2
        refine mn_iinc (m := 1) (L' := [(7, .int (nI (n + 1))), (5, .long (lN (fb2))), (3, .long (lN (fa2))), (2, .int (nI (Bool.toNat ((tgk s (n + 1)).1)))), (1, .int (nI (Bool.toNat ((tgk s (n + 1)).2)))), (0, .ref (o))]) dX12_together_123 (by decide) 0 rfl (by decide) rfl ?_
        refine mm_goto (tgt := 12) dX12_together_126 (by decide) ?_
        refine mn_sub [0, 1, 2, 3, 4, 5] rfl ?_
        exact ih (n + 1) fa2 fb2 F2 G2 A2 h2 (by omega) q1 q2 (fun _ => q3) hI2 ha2 hf2
      refine mm_iload dX12_together_12 0 rfl ?_
      refine mm_aload_n dX12_together_14 rfl 5 rfl ?_
      refine rm_getI 0 dX12_together_15 ha zf_voices (by decide) rfl rfl ?_
      refine mn_top (u := .int (nI (aNv s))) (congrArg Value.int ((hI.1.1.1))) ?_
      refine mn_icmp_ge (tgt := 129) dX12_together_18 (by decide) (by omega) (by omega) (fun c18 => ?_) (fun c18 => ?_)
      · omega
      · refine mm_aload_n dX12_together_21 rfl 5 rfl ?_
        refine mm_iload dX12_together_22 0 rfl ?_
        refine mm_aload_n dX12_together_24 rfl 5 rfl ?_
        refine rm_getA 5 dX12_together_25 ha zf_pickedOf (by decide) rfl ?_
        refine mm_iload dX12_together_28 0 rfl ?_
        refine rm_iald (k := 5) dX12_together_30 ha rfl rfl rfl (show n < 6 from (by omega)) ?_
        refine mn_top (u := .int (nI (aPk s n))) (congrArg Value.int (v5)) ?_
        by_cases hg0 : pfA (aR s n).length = 0
        · obtain ⟨hN, hL0⟩ := pfA_0 hg0
          obtain ⟨y, hy⟩ := pk_ex hW hn6 hL0
          have htE : tgE s n = aT s n y (aSz s n) := by unfold tgE; rw [aYd_e hy]
          have bE := a_tb hW hn6 hy (Nat.le_refl (aSz s n))
          have tk3 : (tgk s (n + 1)).2 = ((tgk s n).2 && (decide (n = 0) || decide (tgE s n = tgE s 0))) := by rw [tk2, decide_eq_true hg0, Bool.true_and]
          have tk4 : (tgk s (n + 1)).1 = (tgk s n).1 := by rw [tk1, decide_eq_false (by omega), Bool.or_false]
          refine rm_callV (As := [.int (nI (n)), .int (nI (aPk s n))]) (rest := []) (d2 := 9) dX12_together_31 ha zc_find zc_find_s rfl rfl rfl (Nat.le_of_ble_eq_true rfl) (Nat.le_of_ble_eq_true rfl) (by decide) (tM_find ha hW hI hn hN (pk_ltL hW hn6 hL0)) (fun r h1 hq => ?_)
          obtain ⟨q, y2, rfl, hq, hy2, F2, A2, ha, hf', hI1, hfr, hvl, h42⟩ := hq
          have hf := hf.tr hf'
          have ey : y = y2 := Option.some.inj (hy.symm.trans hy2)
          subst ey
          have v2 := (hI1.1.2 n hn6).2.1.1
          have hsy := hI1.2.1
          refine mm_istore (L' := [(8, .int (nI (q))), (7, .int (nI (n))), (5, .long (lN (fb))), (3, .long (lN (fa))), (2, .int (nI (Bool.toNat ((tgk s n).1)))), (1, .int (nI (Bool.toNat ((tgk s n).2)))), (0, .ref (o))]) dX12_together_34 (by decide) rfl ?_
          refine mm_iload_n dX12_together_36 rfl 4 rfl ?_
          refine mn_ifB_ne (tgt := 47) dX12_together_37 (by decide) (fun c37 => ?_) (fun c37 => ?_)
          · refine mm_iconst (v := nI 1) dX12_together_47 (by decide) ?_
            refine mm_goto (tgt := 52) dX12_together_48 (by decide) ?_
            refine mn_top (u := .int (nI (Bool.toNat (tgk s (n + 1)).1))) (congrArg Value.int (by rw [tk4, c37]; rfl)) ?_
            refine mm_istore_n (L' := [(2, .int (nI (Bool.toNat ((tgk s (n + 1)).1)))), (8, .int (nI (q))), (7, .int (nI (n))), (5, .long (lN (fb))), (3, .long (lN (fa))), (1, .int (nI (Bool.toNat ((tgk s n).2)))), (0, .ref (o))]) dX12_together_52 rfl (by decide) rfl ?_
            refine mm_iload dX12_together_53 1 rfl ?_
            refine mn_if_lt (tgt := 121) dX12_together_55 (by decide) (by omega) ?_
            refine mm_aload_n dX12_together_58 rfl 6 rfl ?_
            refine mm_iload dX12_together_59 2 rfl ?_
            refine mm_iload dX12_together_61 1 rfl ?_
            refine mm_aload_n dX12_together_63 rfl 6 rfl ?_
            refine rm_getA 2 dX12_together_64 ha zf_sizeOf (by decide) rfl ?_
            refine mm_iload dX12_together_67 2 rfl ?_
            refine rm_iald (k := 2) dX12_together_69 ha rfl rfl rfl (show n < 6 from (by omega)) ?_
            refine mn_top (u := .int (nI (aSz s n))) (congrArg Value.int (v2)) ?_
            refine rm_callV (As := [.int (nI (n)), .int (nI (q)), .int (nI (aSz s n))]) (rest := []) (d2 := 2) dX12_together_70 ha zc_findTime zc_findTime_s rfl rfl rfl (Nat.le_of_ble_eq_true rfl) (Nat.le_of_ble_eq_true rfl) (by decide) (tM_findTime (m := aSz s n) (V := aV y) (ua := fun i => aUa s (24 * n + i)) (da := fun i => aDa s (24 * n + i)) ha hn6 hq (by omega) (fun i hi => hvl i (by omega)) (fun i hi => (hsy (24 * n + i) (by omega)).2.2.2.2.2.1) (fun i hi => (hsy (24 * n + i) (by omega)).2.2.2.2.1.1) (fun i hi => a_sz hW hn6 hy i (by omega)) (fun i hi => a_u1 hW hn6 i (by omega))) (fun r h1 hq => ?_)
            obtain ⟨rfl, G2, ha, hf', h44, h45⟩ := hq
            have hf := hf.tr hf'
            refine mm_iload_n dX12_together_73 rfl 5 rfl ?_
            refine mn_ifB_eq (tgt := 105) dX12_together_74 (by decide) (fun c74 => ?_) (fun c74 => ?_)
            · refine mm_iconst (v := nI 0) dX12_together_105 (by decide) ?_
              refine mn_top (u := .int (nI (Bool.toNat (tgk s (n + 1)).2))) (congrArg Value.int (by rw [tk3, c74]; rfl)) ?_
              refine mm_istore_n (L' := [(1, .int (nI (Bool.toNat ((tgk s (n + 1)).2)))), (2, .int (nI (Bool.toNat ((tgk s (n + 1)).1)))), (8, .int (nI (q))), (7, .int (nI (n))), (5, .long (lN (fb))), (3, .long (lN (fa))), (0, .ref (o))]) dX12_together_106 rfl (by decide) rfl ?_
              refine mm_aload_n dX12_together_107 rfl 6 rfl ?_
              refine rm_getL 44 dX12_together_108 ha zf_above (by decide) rfl rfl ?_
              refine mn_top (u := .long (lN ((aT s n y (aSz s n)).1))) (congrArg Value.long (h44)) ?_
              refine mm_lstore_n (L' := [(3, .long (lN ((aT s n y (aSz s n)).1))), (1, .int (nI (Bool.toNat ((tgk s (n + 1)).2)))), (2, .int (nI (Bool.toNat ((tgk s (n + 1)).1)))), (8, .int (nI (q))), (7, .int (nI (n))), (5, .long (lN (fb))), (0, .ref (o))]) dX12_together_111 rfl (by decide) rfl ?_
              refine mm_aload_n dX12_together_112 rfl 6 rfl ?_
              refine rm_getL 45 dX12_together_113 ha zf_below (by decide) rfl rfl ?_
              refine mn_top (u := .long (lN ((aT s n y (aSz s n)).2))) (congrArg Value.long (h45)) ?_
              refine mm_lstore (L' := [(5, .long (lN ((aT s n y (aSz s n)).2))), (3, .long (lN ((aT s n y (aSz s n)).1))), (1, .int (nI (Bool.toNat ((tgk s (n + 1)).2)))), (2, .int (nI (Bool.toNat ((tgk s (n + 1)).1)))), (8, .int (nI (q))), (7, .int (nI (n))), (0, .ref (o))]) dX12_together_116 (by decide) rfl ?_
              refine mm_goto (tgt := 123) dX12_together_118 (by decide) ?_
              refine mn_sub [5, 0, 1, 3, 2, 6] rfl ?_
              exact j123 _ _ F2 G2 A2 _ bE.1 bE.2.1 (fun z => by rw [tk3, c74] at z; cases z) hI1 ha hf
            · refine mm_iload dX12_together_77 2 rfl ?_
              refine mn_if_eq (tgt := 101) dX12_together_79 (by decide) (by omega) (fun c79 => ?_) (fun c79 => ?_)
              · refine mm_iconst (v := nI 1) dX12_together_101 (by decide) ?_
                refine mm_goto (tgt := 106) dX12_together_102 (by decide) ?_
                refine mn_top (u := .int (nI (Bool.toNat (tgk s (n + 1)).2))) (congrArg Value.int (by rw [tk3, c74, decide_eq_true (show n = 0 from c79)]; rfl)) ?_
                refine mm_istore_n (L' := [(1, .int (nI (Bool.toNat ((tgk s (n + 1)).2)))), (2, .int (nI (Bool.toNat ((tgk s (n + 1)).1)))), (8, .int (nI (q))), (7, .int (nI (n))), (5, .long (lN (fb))), (3, .long (lN (fa))), (0, .ref (o))]) dX12_together_106 rfl (by decide) rfl ?_
                refine mm_aload_n dX12_together_107 rfl 6 rfl ?_
                refine rm_getL 44 dX12_together_108 ha zf_above (by decide) rfl rfl ?_
                refine mn_top (u := .long (lN ((aT s n y (aSz s n)).1))) (congrArg Value.long (h44)) ?_
                refine mm_lstore_n (L' := [(3, .long (lN ((aT s n y (aSz s n)).1))), (1, .int (nI (Bool.toNat ((tgk s (n + 1)).2)))), (2, .int (nI (Bool.toNat ((tgk s (n + 1)).1)))), (8, .int (nI (q))), (7, .int (nI (n))), (5, .long (lN (fb))), (0, .ref (o))]) dX12_together_111 rfl (by decide) rfl ?_
                refine mm_aload_n dX12_together_112 rfl 6 rfl ?_
                refine rm_getL 45 dX12_together_113 ha zf_below (by decide) rfl rfl ?_
                refine mn_top (u := .long (lN ((aT s n y (aSz s n)).2))) (congrArg Value.long (h45)) ?_
                refine mm_lstore (L' := [(5, .long (lN ((aT s n y (aSz s n)).2))), (3, .long (lN ((aT s n y (aSz s n)).1))), (1, .int (nI (Bool.toNat ((tgk s (n + 1)).2)))), (2, .int (nI (Bool.toNat ((tgk s (n + 1)).1)))), (8, .int (nI (q))), (7, .int (nI (n))), (0, .ref (o))]) dX12_together_116 (by decide) rfl ?_
                refine mm_goto (tgt := 123) dX12_together_118 (by decide) ?_
                refine mn_sub [5, 0, 1, 3, 2, 6] rfl ?_
                exact j123 _ _ F2 G2 A2 _ bE.1 bE.2.1 (fun z => by rw [← htE, show n = 0 from c79]; exact ⟨rfl, rfl⟩) hI1 ha hf
              · refine mm_aload_n dX12_together_82 rfl 6 rfl ?_
                refine rm_getL 44 dX12_together_83 ha zf_above (by decide) rfl rfl ?_
                refine mn_top (u := .long (lN ((aT s n y (aSz s n)).1))) (congrArg Value.long (h44)) ?_
                refine mm_lload_n dX12_together_86 rfl 4 rfl ?_
                refine mn_lc_ne (tgt := 105) dX12_together_87 dX12_together_88 (by decide) (by omega) (by omega) (fun c87 => ?_) (fun c87 => ?_)
                · refine mm_iconst (v := nI 0) dX12_together_105 (by decide) ?_
                  refine mn_top (u := .int (nI (Bool.toNat (tgk s (n + 1)).2))) (congrArg Value.int (by rw [tk3, c74, decide_eq_false (show ¬ n = 0 from c79), decide_eq_false (fun e : tgE s n = tgE s 0 => c87 (by rw [(hfl (by omega) c74).1, ← e, htE]))]; rfl)) ?_
                  refine mm_istore_n (L' := [(1, .int (nI (Bool.toNat ((tgk s (n + 1)).2)))), (2, .int (nI (Bool.toNat ((tgk s (n + 1)).1)))), (8, .int (nI (q))), (7, .int (nI (n))), (5, .long (lN (fb))), (3, .long (lN (fa))), (0, .ref (o))]) dX12_together_106 rfl (by decide) rfl ?_
                  refine mm_aload_n dX12_together_107 rfl 6 rfl ?_
                  refine rm_getL 44 dX12_together_108 ha zf_above (by decide) rfl rfl ?_
                  refine mn_top (u := .long (lN ((aT s n y (aSz s n)).1))) (congrArg Value.long (h44)) ?_
                  refine mm_lstore_n (L' := [(3, .long (lN ((aT s n y (aSz s n)).1))), (1, .int (nI (Bool.toNat ((tgk s (n + 1)).2)))), (2, .int (nI (Bool.toNat ((tgk s (n + 1)).1)))), (8, .int (nI (q))), (7, .int (nI (n))), (5, .long (lN (fb))), (0, .ref (o))]) dX12_together_111 rfl (by decide) rfl ?_
                  refine mm_aload_n dX12_together_112 rfl 6 rfl ?_
                  refine rm_getL 45 dX12_together_113 ha zf_below (by decide) rfl rfl ?_
                  refine mn_top (u := .long (lN ((aT s n y (aSz s n)).2))) (congrArg Value.long (h45)) ?_
                  refine mm_lstore (L' := [(5, .long (lN ((aT s n y (aSz s n)).2))), (3, .long (lN ((aT s n y (aSz s n)).1))), (1, .int (nI (Bool.toNat ((tgk s (n + 1)).2)))), (2, .int (nI (Bool.toNat ((tgk s (n + 1)).1)))), (8, .int (nI (q))), (7, .int (nI (n))), (0, .ref (o))]) dX12_together_116 (by decide) rfl ?_
                  refine mm_goto (tgt := 123) dX12_together_118 (by decide) ?_
                  refine mn_sub [5, 0, 1, 3, 2, 6] rfl ?_
                  exact j123 _ _ F2 G2 A2 _ bE.1 bE.2.1 (fun z => by rw [tk3, c74, decide_eq_false (show ¬ n = 0 from c79), decide_eq_false (fun e : tgE s n = tgE s 0 => c87 (by rw [(hfl (by omega) c74).1, ← e, htE]))] at z; cases z) hI1 ha hf
                · refine mm_aload_n dX12_together_91 rfl 6 rfl ?_
                  refine rm_getL 45 dX12_together_92 ha zf_below (by decide) rfl rfl ?_
                  refine mn_top (u := .long (lN ((aT s n y (aSz s n)).2))) (congrArg Value.long (h45)) ?_
                  refine mm_lload dX12_together_95 3 rfl ?_
                  refine mn_lc_ne (tgt := 105) dX12_together_97 dX12_together_98 (by decide) (by omega) (by omega) (fun c97 => ?_) (fun c97 => ?_)
                  · refine mm_iconst (v := nI 0) dX12_together_105 (by decide) ?_
                    refine mn_top (u := .int (nI (Bool.toNat (tgk s (n + 1)).2))) (congrArg Value.int (by rw [tk3, c74, decide_eq_false (show ¬ n = 0 from c79), decide_eq_false (fun e : tgE s n = tgE s 0 => c97 (by rw [(hfl (by omega) c74).2, ← e, htE]))]; rfl)) ?_
                    refine mm_istore_n (L' := [(1, .int (nI (Bool.toNat ((tgk s (n + 1)).2)))), (2, .int (nI (Bool.toNat ((tgk s (n + 1)).1)))), (8, .int (nI (q))), (7, .int (nI (n))), (5, .long (lN (fb))), (3, .long (lN (fa))), (0, .ref (o))]) dX12_together_106 rfl (by decide) rfl ?_
                    refine mm_aload_n dX12_together_107 rfl 6 rfl ?_
                    refine rm_getL 44 dX12_together_108 ha zf_above (by decide) rfl rfl ?_
                    refine mn_top (u := .long (lN ((aT s n y (aSz s n)).1))) (congrArg Value.long (h44)) ?_
                    refine mm_lstore_n (L' := [(3, .long (lN ((aT s n y (aSz s n)).1))), (1, .int (nI (Bool.toNat ((tgk s (n + 1)).2)))), (2, .int (nI (Bool.toNat ((tgk s (n + 1)).1)))), (8, .int (nI (q))), (7, .int (nI (n))), (5, .long (lN (fb))), (0, .ref (o))]) dX12_together_111 rfl (by decide) rfl ?_
                    refine mm_aload_n dX12_together_112 rfl 6 rfl ?_
                    refine rm_getL 45 dX12_together_113 ha zf_below (by decide) rfl rfl ?_
                    refine mn_top (u := .long (lN ((aT s n y (aSz s n)).2))) (congrArg Value.long (h45)) ?_
                    refine mm_lstore (L' := [(5, .long (lN ((aT s n y (aSz s n)).2))), (3, .long (lN ((aT s n y (aSz s n)).1))), (1, .int (nI (Bool.toNat ((tgk s (n + 1)).2)))), (2, .int (nI (Bool.toNat ((tgk s (n + 1)).1)))), (8, .int (nI (q))), (7, .int (nI (n))), (0, .ref (o))]) dX12_together_116 (by decide) rfl ?_
                    refine mm_goto (tgt := 123) dX12_together_118 (by decide) ?_
                    refine mn_sub [5, 0, 1, 3, 2, 6] rfl ?_
                    exact j123 _ _ F2 G2 A2 _ bE.1 bE.2.1 (fun z => by rw [tk3, c74, decide_eq_false (show ¬ n = 0 from c79), decide_eq_false (fun e : tgE s n = tgE s 0 => c97 (by rw [(hfl (by omega) c74).2, ← e, htE]))] at z; cases z) hI1 ha hf
                  · refine mm_iconst (v := nI 1) dX12_together_101 (by decide) ?_
                    refine mm_goto (tgt := 106) dX12_together_102 (by decide) ?_
                    refine mn_top (u := .int (nI (Bool.toNat (tgk s (n + 1)).2))) (congrArg Value.int (by rw [tk3, c74, decide_eq_false (show ¬ n = 0 from c79), decide_eq_true (show tgE s n = tgE s 0 from by rw [htE]; exact Prod.ext (by rw [← (hfl (by omega) c74).1]; omega) (by rw [← (hfl (by omega) c74).2]; omega))]; rfl)) ?_
                    refine mm_istore_n (L' := [(1, .int (nI (Bool.toNat ((tgk s (n + 1)).2)))), (2, .int (nI (Bool.toNat ((tgk s (n + 1)).1)))), (8, .int (nI (q))), (7, .int (nI (n))), (5, .long (lN (fb))), (3, .long (lN (fa))), (0, .ref (o))]) dX12_together_106 rfl (by decide) rfl ?_
                    refine mm_aload_n dX12_together_107 rfl 6 rfl ?_
                    refine rm_getL 44 dX12_together_108 ha zf_above (by decide) rfl rfl ?_
                    refine mn_top (u := .long (lN ((aT s n y (aSz s n)).1))) (congrArg Value.long (h44)) ?_
                    refine mm_lstore_n (L' := [(3, .long (lN ((aT s n y (aSz s n)).1))), (1, .int (nI (Bool.toNat ((tgk s (n + 1)).2)))), (2, .int (nI (Bool.toNat ((tgk s (n + 1)).1)))), (8, .int (nI (q))), (7, .int (nI (n))), (5, .long (lN (fb))), (0, .ref (o))]) dX12_together_111 rfl (by decide) rfl ?_
                    refine mm_aload_n dX12_together_112 rfl 6 rfl ?_
                    refine rm_getL 45 dX12_together_113 ha zf_below (by decide) rfl rfl ?_
                    refine mn_top (u := .long (lN ((aT s n y (aSz s n)).2))) (congrArg Value.long (h45)) ?_
                    refine mm_lstore (L' := [(5, .long (lN ((aT s n y (aSz s n)).2))), (3, .long (lN ((aT s n y (aSz s n)).1))), (1, .int (nI (Bool.toNat ((tgk s (n + 1)).2)))), (2, .int (nI (Bool.toNat ((tgk s (n + 1)).1)))), (8, .int (nI (q))), (7, .int (nI (n))), (0, .ref (o))]) dX12_together_116 (by decide) rfl ?_
                    refine mm_goto (tgt := 123) dX12_together_118 (by decide) ?_
                    refine mn_sub [5, 0, 1, 3, 2, 6] rfl ?_
                    exact j123 _ _ F2 G2 A2 _ bE.1 bE.2.1 (fun z => by have h1 := hfl (by omega) c74; exact ⟨by omega, by omega⟩) hI1 ha hf
          · refine mm_iload dX12_together_40 0 rfl ?_
            refine mm_bipush (v := (-4)) dX12_together_42 (by decide) ?_
            refine mm_icmp_ne (tgt := 51) dX12_together_44 (by decide) (fun c44 => ?_) (fun c44 => ?_)
            · refine mm_iconst (v := nI 0) dX12_together_51 (by decide) ?_
              refine mn_top (u := .int (nI (Bool.toNat (tgk s (n + 1)).1))) (congrArg Value.int (by rw [tk4, c37]; rfl)) ?_
              refine mm_istore_n (L' := [(2, .int (nI (Bool.toNat ((tgk s (n + 1)).1)))), (8, .int (nI (q))), (7, .int (nI (n))), (5, .long (lN (fb))), (3, .long (lN (fa))), (1, .int (nI (Bool.toNat ((tgk s n).2)))), (0, .ref (o))]) dX12_together_52 rfl (by decide) rfl ?_
              refine mm_iload dX12_together_53 1 rfl ?_
              refine mn_if_lt (tgt := 121) dX12_together_55 (by decide) (by omega) ?_
              refine mm_aload_n dX12_together_58 rfl 6 rfl ?_
              refine mm_iload dX12_together_59 2 rfl ?_
              refine mm_iload dX12_together_61 1 rfl ?_
              refine mm_aload_n dX12_together_63 rfl 6 rfl ?_
              refine rm_getA 2 dX12_together_64 ha zf_sizeOf (by decide) rfl ?_
              refine mm_iload dX12_together_67 2 rfl ?_
              refine rm_iald (k := 2) dX12_together_69 ha rfl rfl rfl (show n < 6 from (by omega)) ?_
              refine mn_top (u := .int (nI (aSz s n))) (congrArg Value.int (v2)) ?_
              refine rm_callV (As := [.int (nI (n)), .int (nI (q)), .int (nI (aSz s n))]) (rest := []) (d2 := 2) dX12_together_70 ha zc_findTime zc_findTime_s rfl rfl rfl (Nat.le_of_ble_eq_true rfl) (Nat.le_of_ble_eq_true rfl) (by decide) (tM_findTime (m := aSz s n) (V := aV y) (ua := fun i => aUa s (24 * n + i)) (da := fun i => aDa s (24 * n + i)) ha hn6 hq (by omega) (fun i hi => hvl i (by omega)) (fun i hi => (hsy (24 * n + i) (by omega)).2.2.2.2.2.1) (fun i hi => (hsy (24 * n + i) (by omega)).2.2.2.2.1.1) (fun i hi => a_sz hW hn6 hy i (by omega)) (fun i hi => a_u1 hW hn6 i (by omega))) (fun r h1 hq => ?_)
              obtain ⟨rfl, G2, ha, hf', h44, h45⟩ := hq
              have hf := hf.tr hf'
              refine mm_iload_n dX12_together_73 rfl 5 rfl ?_
              refine mn_ifB_eq (tgt := 105) dX12_together_74 (by decide) (fun c74 => ?_) (fun c74 => ?_)
              · refine mm_iconst (v := nI 0) dX12_together_105 (by decide) ?_
                refine mn_top (u := .int (nI (Bool.toNat (tgk s (n + 1)).2))) (congrArg Value.int (by rw [tk3, c74]; rfl)) ?_
                refine mm_istore_n (L' := [(1, .int (nI (Bool.toNat ((tgk s (n + 1)).2)))), (2, .int (nI (Bool.toNat ((tgk s (n + 1)).1)))), (8, .int (nI (q))), (7, .int (nI (n))), (5, .long (lN (fb))), (3, .long (lN (fa))), (0, .ref (o))]) dX12_together_106 rfl (by decide) rfl ?_
                refine mm_aload_n dX12_together_107 rfl 6 rfl ?_
                refine rm_getL 44 dX12_together_108 ha zf_above (by decide) rfl rfl ?_
                refine mn_top (u := .long (lN ((aT s n y (aSz s n)).1))) (congrArg Value.long (h44)) ?_
                refine mm_lstore_n (L' := [(3, .long (lN ((aT s n y (aSz s n)).1))), (1, .int (nI (Bool.toNat ((tgk s (n + 1)).2)))), (2, .int (nI (Bool.toNat ((tgk s (n + 1)).1)))), (8, .int (nI (q))), (7, .int (nI (n))), (5, .long (lN (fb))), (0, .ref (o))]) dX12_together_111 rfl (by decide) rfl ?_
                refine mm_aload_n dX12_together_112 rfl 6 rfl ?_
                refine rm_getL 45 dX12_together_113 ha zf_below (by decide) rfl rfl ?_
                refine mn_top (u := .long (lN ((aT s n y (aSz s n)).2))) (congrArg Value.long (h45)) ?_
                refine mm_lstore (L' := [(5, .long (lN ((aT s n y (aSz s n)).2))), (3, .long (lN ((aT s n y (aSz s n)).1))), (1, .int (nI (Bool.toNat ((tgk s (n + 1)).2)))), (2, .int (nI (Bool.toNat ((tgk s (n + 1)).1)))), (8, .int (nI (q))), (7, .int (nI (n))), (0, .ref (o))]) dX12_together_116 (by decide) rfl ?_
                refine mm_goto (tgt := 123) dX12_together_118 (by decide) ?_
                refine mn_sub [5, 0, 1, 3, 2, 6] rfl ?_
                exact j123 _ _ F2 G2 A2 _ bE.1 bE.2.1 (fun z => by rw [tk3, c74] at z; cases z) hI1 ha hf
              · refine mm_iload dX12_together_77 2 rfl ?_
                refine mn_if_eq (tgt := 101) dX12_together_79 (by decide) (by omega) (fun c79 => ?_) (fun c79 => ?_)
                · refine mm_iconst (v := nI 1) dX12_together_101 (by decide) ?_
                  refine mm_goto (tgt := 106) dX12_together_102 (by decide) ?_
                  refine mn_top (u := .int (nI (Bool.toNat (tgk s (n + 1)).2))) (congrArg Value.int (by rw [tk3, c74, decide_eq_true (show n = 0 from c79)]; rfl)) ?_
                  refine mm_istore_n (L' := [(1, .int (nI (Bool.toNat ((tgk s (n + 1)).2)))), (2, .int (nI (Bool.toNat ((tgk s (n + 1)).1)))), (8, .int (nI (q))), (7, .int (nI (n))), (5, .long (lN (fb))), (3, .long (lN (fa))), (0, .ref (o))]) dX12_together_106 rfl (by decide) rfl ?_
                  refine mm_aload_n dX12_together_107 rfl 6 rfl ?_
                  refine rm_getL 44 dX12_together_108 ha zf_above (by decide) rfl rfl ?_
                  refine mn_top (u := .long (lN ((aT s n y (aSz s n)).1))) (congrArg Value.long (h44)) ?_
                  refine mm_lstore_n (L' := [(3, .long (lN ((aT s n y (aSz s n)).1))), (1, .int (nI (Bool.toNat ((tgk s (n + 1)).2)))), (2, .int (nI (Bool.toNat ((tgk s (n + 1)).1)))), (8, .int (nI (q))), (7, .int (nI (n))), (5, .long (lN (fb))), (0, .ref (o))]) dX12_together_111 rfl (by decide) rfl ?_
                  refine mm_aload_n dX12_together_112 rfl 6 rfl ?_
                  refine rm_getL 45 dX12_together_113 ha zf_below (by decide) rfl rfl ?_
                  refine mn_top (u := .long (lN ((aT s n y (aSz s n)).2))) (congrArg Value.long (h45)) ?_
                  refine mm_lstore (L' := [(5, .long (lN ((aT s n y (aSz s n)).2))), (3, .long (lN ((aT s n y (aSz s n)).1))), (1, .int (nI (Bool.toNat ((tgk s (n + 1)).2)))), (2, .int (nI (Bool.toNat ((tgk s (n + 1)).1)))), (8, .int (nI (q))), (7, .int (nI (n))), (0, .ref (o))]) dX12_together_116 (by decide) rfl ?_
                  refine mm_goto (tgt := 123) dX12_together_118 (by decide) ?_
                  refine mn_sub [5, 0, 1, 3, 2, 6] rfl ?_
                  exact j123 _ _ F2 G2 A2 _ bE.1 bE.2.1 (fun z => by rw [← htE, show n = 0 from c79]; exact ⟨rfl, rfl⟩) hI1 ha hf
                · refine mm_aload_n dX12_together_82 rfl 6 rfl ?_
                  refine rm_getL 44 dX12_together_83 ha zf_above (by decide) rfl rfl ?_
                  refine mn_top (u := .long (lN ((aT s n y (aSz s n)).1))) (congrArg Value.long (h44)) ?_
                  refine mm_lload_n dX12_together_86 rfl 4 rfl ?_
                  refine mn_lc_ne (tgt := 105) dX12_together_87 dX12_together_88 (by decide) (by omega) (by omega) (fun c87 => ?_) (fun c87 => ?_)
                  · refine mm_iconst (v := nI 0) dX12_together_105 (by decide) ?_
                    refine mn_top (u := .int (nI (Bool.toNat (tgk s (n + 1)).2))) (congrArg Value.int (by rw [tk3, c74, decide_eq_false (show ¬ n = 0 from c79), decide_eq_false (fun e : tgE s n = tgE s 0 => c87 (by rw [(hfl (by omega) c74).1, ← e, htE]))]; rfl)) ?_
                    refine mm_istore_n (L' := [(1, .int (nI (Bool.toNat ((tgk s (n + 1)).2)))), (2, .int (nI (Bool.toNat ((tgk s (n + 1)).1)))), (8, .int (nI (q))), (7, .int (nI (n))), (5, .long (lN (fb))), (3, .long (lN (fa))), (0, .ref (o))]) dX12_together_106 rfl (by decide) rfl ?_
                    refine mm_aload_n dX12_together_107 rfl 6 rfl ?_
                    refine rm_getL 44 dX12_together_108 ha zf_above (by decide) rfl rfl ?_
                    refine mn_top (u := .long (lN ((aT s n y (aSz s n)).1))) (congrArg Value.long (h44)) ?_
                    refine mm_lstore_n (L' := [(3, .long (lN ((aT s n y (aSz s n)).1))), (1, .int (nI (Bool.toNat ((tgk s (n + 1)).2)))), (2, .int (nI (Bool.toNat ((tgk s (n + 1)).1)))), (8, .int (nI (q))), (7, .int (nI (n))), (5, .long (lN (fb))), (0, .ref (o))]) dX12_together_111 rfl (by decide) rfl ?_
                    refine mm_aload_n dX12_together_112 rfl 6 rfl ?_
                    refine rm_getL 45 dX12_together_113 ha zf_below (by decide) rfl rfl ?_
                    refine mn_top (u := .long (lN ((aT s n y (aSz s n)).2))) (congrArg Value.long (h45)) ?_
                    refine mm_lstore (L' := [(5, .long (lN ((aT s n y (aSz s n)).2))), (3, .long (lN ((aT s n y (aSz s n)).1))), (1, .int (nI (Bool.toNat ((tgk s (n + 1)).2)))), (2, .int (nI (Bool.toNat ((tgk s (n + 1)).1)))), (8, .int (nI (q))), (7, .int (nI (n))), (0, .ref (o))]) dX12_together_116 (by decide) rfl ?_
                    refine mm_goto (tgt := 123) dX12_together_118 (by decide) ?_
                    refine mn_sub [5, 0, 1, 3, 2, 6] rfl ?_
                    exact j123 _ _ F2 G2 A2 _ bE.1 bE.2.1 (fun z => by rw [tk3, c74, decide_eq_false (show ¬ n = 0 from c79), decide_eq_false (fun e : tgE s n = tgE s 0 => c87 (by rw [(hfl (by omega) c74).1, ← e, htE]))] at z; cases z) hI1 ha hf
                  · refine mm_aload_n dX12_together_91 rfl 6 rfl ?_
                    refine rm_getL 45 dX12_together_92 ha zf_below (by decide) rfl rfl ?_
                    refine mn_top (u := .long (lN ((aT s n y (aSz s n)).2))) (congrArg Value.long (h45)) ?_
                    refine mm_lload dX12_together_95 3 rfl ?_
                    refine mn_lc_ne (tgt := 105) dX12_together_97 dX12_together_98 (by decide) (by omega) (by omega) (fun c97 => ?_) (fun c97 => ?_)
                    · refine mm_iconst (v := nI 0) dX12_together_105 (by decide) ?_
                      refine mn_top (u := .int (nI (Bool.toNat (tgk s (n + 1)).2))) (congrArg Value.int (by rw [tk3, c74, decide_eq_false (show ¬ n = 0 from c79), decide_eq_false (fun e : tgE s n = tgE s 0 => c97 (by rw [(hfl (by omega) c74).2, ← e, htE]))]; rfl)) ?_
                      refine mm_istore_n (L' := [(1, .int (nI (Bool.toNat ((tgk s (n + 1)).2)))), (2, .int (nI (Bool.toNat ((tgk s (n + 1)).1)))), (8, .int (nI (q))), (7, .int (nI (n))), (5, .long (lN (fb))), (3, .long (lN (fa))), (0, .ref (o))]) dX12_together_106 rfl (by decide) rfl ?_
                      refine mm_aload_n dX12_together_107 rfl 6 rfl ?_
                      refine rm_getL 44 dX12_together_108 ha zf_above (by decide) rfl rfl ?_
                      refine mn_top (u := .long (lN ((aT s n y (aSz s n)).1))) (congrArg Value.long (h44)) ?_
                      refine mm_lstore_n (L' := [(3, .long (lN ((aT s n y (aSz s n)).1))), (1, .int (nI (Bool.toNat ((tgk s (n + 1)).2)))), (2, .int (nI (Bool.toNat ((tgk s (n + 1)).1)))), (8, .int (nI (q))), (7, .int (nI (n))), (5, .long (lN (fb))), (0, .ref (o))]) dX12_together_111 rfl (by decide) rfl ?_
                      refine mm_aload_n dX12_together_112 rfl 6 rfl ?_
                      refine rm_getL 45 dX12_together_113 ha zf_below (by decide) rfl rfl ?_
                      refine mn_top (u := .long (lN ((aT s n y (aSz s n)).2))) (congrArg Value.long (h45)) ?_
                      refine mm_lstore (L' := [(5, .long (lN ((aT s n y (aSz s n)).2))), (3, .long (lN ((aT s n y (aSz s n)).1))), (1, .int (nI (Bool.toNat ((tgk s (n + 1)).2)))), (2, .int (nI (Bool.toNat ((tgk s (n + 1)).1)))), (8, .int (nI (q))), (7, .int (nI (n))), (0, .ref (o))]) dX12_together_116 (by decide) rfl ?_
                      refine mm_goto (tgt := 123) dX12_together_118 (by decide) ?_
                      refine mn_sub [5, 0, 1, 3, 2, 6] rfl ?_
                      exact j123 _ _ F2 G2 A2 _ bE.1 bE.2.1 (fun z => by rw [tk3, c74, decide_eq_false (show ¬ n = 0 from c79), decide_eq_false (fun e : tgE s n = tgE s 0 => c97 (by rw [(hfl (by omega) c74).2, ← e, htE]))] at z; cases z) hI1 ha hf
                    · refine mm_iconst (v := nI 1) dX12_together_101 (by decide) ?_
                      refine mm_goto (tgt := 106) dX12_together_102 (by decide) ?_
                      refine mn_top (u := .int (nI (Bool.toNat (tgk s (n + 1)).2))) (congrArg Value.int (by rw [tk3, c74, decide_eq_false (show ¬ n = 0 from c79), decide_eq_true (show tgE s n = tgE s 0 from by rw [htE]; exact Prod.ext (by rw [← (hfl (by omega) c74).1]; omega) (by rw [← (hfl (by omega) c74).2]; omega))]; rfl)) ?_
                      refine mm_istore_n (L' := [(1, .int (nI (Bool.toNat ((tgk s (n + 1)).2)))), (2, .int (nI (Bool.toNat ((tgk s (n + 1)).1)))), (8, .int (nI (q))), (7, .int (nI (n))), (5, .long (lN (fb))), (3, .long (lN (fa))), (0, .ref (o))]) dX12_together_106 rfl (by decide) rfl ?_
                      refine mm_aload_n dX12_together_107 rfl 6 rfl ?_
                      refine rm_getL 44 dX12_together_108 ha zf_above (by decide) rfl rfl ?_
                      refine mn_top (u := .long (lN ((aT s n y (aSz s n)).1))) (congrArg Value.long (h44)) ?_
                      refine mm_lstore_n (L' := [(3, .long (lN ((aT s n y (aSz s n)).1))), (1, .int (nI (Bool.toNat ((tgk s (n + 1)).2)))), (2, .int (nI (Bool.toNat ((tgk s (n + 1)).1)))), (8, .int (nI (q))), (7, .int (nI (n))), (5, .long (lN (fb))), (0, .ref (o))]) dX12_together_111 rfl (by decide) rfl ?_
                      refine mm_aload_n dX12_together_112 rfl 6 rfl ?_
                      refine rm_getL 45 dX12_together_113 ha zf_below (by decide) rfl rfl ?_
                      refine mn_top (u := .long (lN ((aT s n y (aSz s n)).2))) (congrArg Value.long (h45)) ?_
                      refine mm_lstore (L' := [(5, .long (lN ((aT s n y (aSz s n)).2))), (3, .long (lN ((aT s n y (aSz s n)).1))), (1, .int (nI (Bool.toNat ((tgk s (n + 1)).2)))), (2, .int (nI (Bool.toNat ((tgk s (n + 1)).1)))), (8, .int (nI (q))), (7, .int (nI (n))), (0, .ref (o))]) dX12_together_116 (by decide) rfl ?_
                      refine mm_goto (tgt := 123) dX12_together_118 (by decide) ?_
                      refine mn_sub [5, 0, 1, 3, 2, 6] rfl ?_
                      exact j123 _ _ F2 G2 A2 _ bE.1 bE.2.1 (fun z => by have h1 := hfl (by omega) c74; exact ⟨by omega, by omega⟩) hI1 ha hf
            · exact absurd c44 (nI_n4 (by omega))
        · refine rm_callV (As := [.int (nI (n)), .int (nI (aPk s n))]) (rest := []) (d2 := 9) dX12_together_31 ha zc_find zc_find_s rfl rfl rfl (Nat.le_of_ble_eq_true rfl) (Nat.le_of_ble_eq_true rfl) (by decide) (tM_findR ha hW hI hn (by rw [pf_rf hvok.2.2.2.2.2.2]; exact hg0)) (fun r h1 hq => ?_)
          obtain ⟨rfl, F2, A2, ha, hf', hI1⟩ := hq
          have hf := hf.tr hf'
          rw [pf_rf hvok.2.2.2.2.2.2]
          have t2f : (tgk s (n + 1)).2 = false := by rw [tk2, decide_eq_false hg0, Bool.false_and, Bool.and_false]
          refine mm_istore (L' := [(8, .int (pfA (aR s n).length)), (7, .int (nI (n))), (5, .long (lN (fb))), (3, .long (lN (fa))), (2, .int (nI (Bool.toNat ((tgk s n).1)))), (1, .int (nI (Bool.toNat ((tgk s n).2)))), (0, .ref (o))]) dX12_together_34 (by decide) rfl ?_
          refine mm_iload_n dX12_together_36 rfl 4 rfl ?_
          refine mn_ifB_ne (tgt := 47) dX12_together_37 (by decide) (fun c37 => ?_) (fun c37 => ?_)
          · refine mm_iconst (v := nI 1) dX12_together_47 (by decide) ?_
            refine mm_goto (tgt := 52) dX12_together_48 (by decide) ?_
            refine mn_top (u := .int (nI (Bool.toNat (tgk s (n + 1)).1))) (congrArg Value.int (by rw [tk1, c37]; rfl)) ?_
            refine mm_istore_n (L' := [(2, .int (nI (Bool.toNat ((tgk s (n + 1)).1)))), (8, .int (pfA (aR s n).length)), (7, .int (nI (n))), (5, .long (lN (fb))), (3, .long (lN (fa))), (1, .int (nI (Bool.toNat ((tgk s n).2)))), (0, .ref (o))]) dX12_together_52 rfl (by decide) rfl ?_
            refine mm_iload dX12_together_53 1 rfl ?_
            refine mm_if_lt (tgt := 121) dX12_together_55 (by decide) (fun c55 => ?_) (fun c55 => ?_)
            · refine mm_iconst (v := nI 0) dX12_together_121 (by decide) ?_
              refine mn_top (u := .int (nI (Bool.toNat (tgk s (n + 1)).2))) (congrArg Value.int (by rw [t2f]; rfl)) ?_
              refine mm_istore_n (L' := [(1, .int (nI (Bool.toNat ((tgk s (n + 1)).2)))), (2, .int (nI (Bool.toNat ((tgk s (n + 1)).1)))), (8, .int (pfA (aR s n).length)), (7, .int (nI (n))), (5, .long (lN (fb))), (3, .long (lN (fa))), (0, .ref (o))]) dX12_together_122 rfl (by decide) rfl ?_
              refine mn_sub [3, 4, 5, 1, 0, 6] rfl ?_
              exact j123 _ _ F2 G1 A2 _ hfa hfb (fun z => by rw [t2f] at z; cases z) hI1 ha hf
            · exact absurd (pfA_neg hg0) c55
          · refine mm_iload dX12_together_40 0 rfl ?_
            refine mm_bipush (v := (-4)) dX12_together_42 (by decide) ?_
            refine mm_icmp_ne (tgt := 51) dX12_together_44 (by decide) (fun c44 => ?_) (fun c44 => ?_)
            · refine mm_iconst (v := nI 0) dX12_together_51 (by decide) ?_
              refine mn_top (u := .int (nI (Bool.toNat (tgk s (n + 1)).1))) (congrArg Value.int (by rw [tk1, c37, decide_eq_false (fun z => c44 (pfA_m.mpr z))]; rfl)) ?_
              refine mm_istore_n (L' := [(2, .int (nI (Bool.toNat ((tgk s (n + 1)).1)))), (8, .int (pfA (aR s n).length)), (7, .int (nI (n))), (5, .long (lN (fb))), (3, .long (lN (fa))), (1, .int (nI (Bool.toNat ((tgk s n).2)))), (0, .ref (o))]) dX12_together_52 rfl (by decide) rfl ?_
              refine mm_iload dX12_together_53 1 rfl ?_
              refine mm_if_lt (tgt := 121) dX12_together_55 (by decide) (fun c55 => ?_) (fun c55 => ?_)
              · refine mm_iconst (v := nI 0) dX12_together_121 (by decide) ?_
                refine mn_top (u := .int (nI (Bool.toNat (tgk s (n + 1)).2))) (congrArg Value.int (by rw [t2f]; rfl)) ?_
                refine mm_istore_n (L' := [(1, .int (nI (Bool.toNat ((tgk s (n + 1)).2)))), (2, .int (nI (Bool.toNat ((tgk s (n + 1)).1)))), (8, .int (pfA (aR s n).length)), (7, .int (nI (n))), (5, .long (lN (fb))), (3, .long (lN (fa))), (0, .ref (o))]) dX12_together_122 rfl (by decide) rfl ?_
                refine mn_sub [3, 4, 5, 1, 0, 6] rfl ?_
                exact j123 _ _ F2 G1 A2 _ hfa hfb (fun z => by rw [t2f] at z; cases z) hI1 ha hf
              · exact absurd (pfA_neg hg0) c55
            · refine mm_iconst (v := nI 1) dX12_together_47 (by decide) ?_
              refine mm_goto (tgt := 52) dX12_together_48 (by decide) ?_
              refine mn_top (u := .int (nI (Bool.toNat (tgk s (n + 1)).1))) (congrArg Value.int (by rw [tk1, decide_eq_true (pfA_m.mp c44), Bool.or_true]; rfl)) ?_
              refine mm_istore_n (L' := [(2, .int (nI (Bool.toNat ((tgk s (n + 1)).1)))), (8, .int (pfA (aR s n).length)), (7, .int (nI (n))), (5, .long (lN (fb))), (3, .long (lN (fa))), (1, .int (nI (Bool.toNat ((tgk s n).2)))), (0, .ref (o))]) dX12_together_52 rfl (by decide) rfl ?_
              refine mm_iload dX12_together_53 1 rfl ?_
              refine mm_if_lt (tgt := 121) dX12_together_55 (by decide) (fun c55 => ?_) (fun c55 => ?_)
              · refine mm_iconst (v := nI 0) dX12_together_121 (by decide) ?_
                refine mn_top (u := .int (nI (Bool.toNat (tgk s (n + 1)).2))) (congrArg Value.int (by rw [t2f]; rfl)) ?_
                refine mm_istore_n (L' := [(1, .int (nI (Bool.toNat ((tgk s (n + 1)).2)))), (2, .int (nI (Bool.toNat ((tgk s (n + 1)).1)))), (8, .int (pfA (aR s n).length)), (7, .int (nI (n))), (5, .long (lN (fb))), (3, .long (lN (fa))), (0, .ref (o))]) dX12_together_122 rfl (by decide) rfl ?_
                refine mn_sub [3, 4, 5, 1, 0, 6] rfl ?_
                exact j123 _ _ F2 G1 A2 _ hfa hfb (fun z => by rw [t2f] at z; cases z) hI1 ha hf
              · exact absurd (pfA_neg hg0) c55
  refine mm_iconst (v := nI 1) dX12_together_0 (by decide) ?_
  refine mm_istore_n (L' := [(1, .int (nI (1))), (0, .ref (o))]) dX12_together_1 rfl (by decide) rfl ?_
  refine mm_iconst (v := nI 0) dX12_together_2 (by decide) ?_
  refine mm_istore_n (L' := [(2, .int (nI (0))), (1, .int (nI (1))), (0, .ref (o))]) dX12_together_3 rfl (by decide) rfl ?_
  refine mm_lconst (v := lN 0) dX12_together_4 (by decide) ?_
  refine mm_lstore_n (L' := [(3, .long (lN (0))), (2, .int (nI (0))), (1, .int (nI (1))), (0, .ref (o))]) dX12_together_5 rfl (by decide) rfl ?_
  refine mm_lconst (v := lN 1) dX12_together_6 (by decide) ?_
  refine mm_lstore (L' := [(5, .long (lN (1))), (3, .long (lN (0))), (2, .int (nI (0))), (1, .int (nI (1))), (0, .ref (o))]) dX12_together_7 (by decide) rfl ?_
  refine mm_iconst (v := nI 0) dX12_together_9 (by decide) ?_
  refine mm_istore (L' := [(7, .int (nI (0))), (5, .long (lN (1))), (3, .long (lN (0))), (2, .int (nI (0))), (1, .int (nI (1))), (0, .ref (o))]) dX12_together_10 (by decide) rfl ?_
  refine mn_sub [0, 1, 2, 3, 4, 5] rfl ?_
  exact lp (aNv s) 0 0 1 F G A h (by omega) (by decide) (by decide) (fun z => by omega) hI ha hf
