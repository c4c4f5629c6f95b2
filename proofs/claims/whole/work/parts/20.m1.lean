set_option maxRecDepth 100000 in
set_option maxHeartbeats 4000000 in
theorem tm_isIn {l : Launch} {D : va_G} {aa : Nat → ClassId} {b0 : Nat} {h : mm_H}  (v lo hi : Int64) : mm_V (zz_K l D aa b0) 0 yX12_isIn cX12_isIn 6 (some .boolean) 0 [(0, .long (v)), (2, .long (lo)), (4, .long (hi))] [] h 0 0 (fun r h' => h' = h ∧ r = some (.int (nI (Bool.toNat (decide (lo ≤ v ∧ v ≤ hi)))))) := by
  refine mm_lload_n dX12_isIn_0 rfl 0 rfl ?_
  refine mm_lload_n dX12_isIn_1 rfl 1 rfl ?_
  refine mm_lcmp dX12_isIn_2 ?_
  refine mm_if_lt (tgt := 17) dX12_isIn_3 (by decide) (fun c3 => ?_) (fun c3 => ?_)
  · refine mm_iconst (v := nI 0) dX12_isIn_17 (by decide) ?_
    exact mm_zret dX12_isIn_18 rfl (by decide) (⟨rfl, by rw [show decide (lo ≤ v ∧ v ≤ hi) = false from decide_eq_false (fun z => by first | exact absurd ((lg_cmp_lt _ _).mp c3) (Int64.not_lt.mpr z.1) | exact absurd ((lg_cmp_gt _ _).mp c10) (Int64.not_lt.mpr z.2))]; rfl⟩)
  · refine mm_lload_n dX12_isIn_6 rfl 0 rfl ?_
    refine mm_lload dX12_isIn_7 2 rfl ?_
    refine mm_lcmp dX12_isIn_9 ?_
    refine mm_if_gt (tgt := 17) dX12_isIn_10 (by decide) (fun c10 => ?_) (fun c10 => ?_)
    · refine mm_iconst (v := nI 0) dX12_isIn_17 (by decide) ?_
      exact mm_zret dX12_isIn_18 rfl (by decide) (⟨rfl, by rw [show decide (lo ≤ v ∧ v ≤ hi) = false from decide_eq_false (fun z => by first | exact absurd ((lg_cmp_lt _ _).mp c3) (Int64.not_lt.mpr z.1) | exact absurd ((lg_cmp_gt _ _).mp c10) (Int64.not_lt.mpr z.2))]; rfl⟩)
    · refine mm_iconst (v := nI 1) dX12_isIn_13 (by decide) ?_
      refine mm_goto (tgt := 18) dX12_isIn_14 (by decide) ?_
      exact mm_zret dX12_isIn_18 rfl (by decide) (⟨rfl, by rw [show decide (lo ≤ v ∧ v ≤ hi) = true from decide_eq_true ⟨Int64.not_lt.mp (fun z => c3 ((lg_cmp_lt _ _).mpr z)), Int64.not_lt.mp (fun z => c10 ((lg_cmp_gt _ _).mpr z))⟩]; rfl⟩)
set_option maxRecDepth 100000 in
set_option maxHeartbeats 4000000 in
theorem tm_isPlain {l : Launch} {D : va_G} {aa : Nat → ClassId} {b0 : Nat} {h : mm_H} {o : Nat} {F : Nat → Int32} {G : Nat → Int64} {A : Nat → Nat → Int32} {B : Nat → Nat → Int64} (ha : rm_at o F G A B h) {w : ro_w} (hw : ro_at F A w) {i k : Nat} (hi : i < 100) (hk : k < 100) : mm_V (zz_K l D aa b0) 0 yX12_isPlain cX12_isPlain 3 (some .boolean) 0 [(0, .ref (o)), (1, .int (nI (i))), (2, .int (nI (k)))] [] h 0 0 (fun r h' => h' = h ∧ r = some (.int (nI (Bool.toNat (ro_plain w i k))))) := by
  obtain ⟨hn, h15, hrow⟩ := hw
  refine mm_iload_n dX12_isPlain_0 rfl 1 rfl ?_
  refine mm_aload_n dX12_isPlain_1 rfl 0 rfl ?_
  refine rm_getI 15 dX12_isPlain_2 ha zf_size (by decide) rfl rfl ?_
  refine mn_top (u := .int (nI (w.1))) (congrArg Value.int ((h15))) ?_
  refine mn_icmp_ge (tgt := 41) dX12_isPlain_5 (by decide) (by omega) (by omega) (fun c5 => ?_) (fun c5 => ?_)
  · refine mm_iconst (v := nI 0) dX12_isPlain_41 (by decide) ?_
    exact mm_zret dX12_isPlain_42 rfl (by decide) (⟨rfl, by rw [show ro_plain w i k = false from by unfold ro_plain; first | (simp_all; done) | (simp_all; omega)]; rfl⟩)
  · refine mm_aload_n dX12_isPlain_8 rfl 0 rfl ?_
    refine rm_getA 16 dX12_isPlain_9 ha zf_rowSort (by decide) rfl ?_
    refine mm_iload_n dX12_isPlain_12 rfl 1 rfl ?_
    refine rm_iald (k := 16) dX12_isPlain_13 ha rfl rfl rfl (show i < 24 from (by omega)) ?_
    have qa14 := (hrow (i) (by omega)).2.2.2.1
    have qb14 := (hrow (i) (by omega)).2.2.2.2
    refine mn_top (u := .int (nI (w.2.1 (i)))) (congrArg Value.int ((hrow (i) (by omega)).1)) ?_
    refine mm_iconst (v := nI 1) dX12_isPlain_14 (by decide) ?_
    refine mn_icmp_ne (tgt := 41) dX12_isPlain_15 (by decide) (by omega) (by omega) (fun c15 => ?_) (fun c15 => ?_)
    · refine mm_iconst (v := nI 0) dX12_isPlain_41 (by decide) ?_
      exact mm_zret dX12_isPlain_42 rfl (by decide) (⟨rfl, by rw [show ro_plain w i k = false from by unfold ro_plain; first | (simp_all; done) | (simp_all; omega)]; rfl⟩)
    · refine mm_aload_n dX12_isPlain_18 rfl 0 rfl ?_
      refine rm_getA 18 dX12_isPlain_19 ha zf_rowColoured (by decide) rfl ?_
      refine mm_iload_n dX12_isPlain_22 rfl 1 rfl ?_
      refine rm_zald (k := 18) dX12_isPlain_23 ha rfl rfl rfl (show i < 24 from (by omega)) ?_
      have qa24 := (hrow (i) (by omega)).2.2.2.1
      have qb24 := (hrow (i) (by omega)).2.2.2.2
      refine mn_top (u := .int (nI (Bool.toNat (w.2.2.2 (i))))) (congrArg Value.int ((hrow (i) (by omega)).2.2.1)) ?_
      refine mn_ifB_ne (tgt := 41) dX12_isPlain_24 (by decide) (fun c24 => ?_) (fun c24 => ?_)
      · refine mm_iconst (v := nI 0) dX12_isPlain_41 (by decide) ?_
        exact mm_zret dX12_isPlain_42 rfl (by decide) (⟨rfl, by rw [show ro_plain w i k = false from by unfold ro_plain; first | (simp_all; done) | (simp_all; omega)]; rfl⟩)
      · refine mm_aload_n dX12_isPlain_27 rfl 0 rfl ?_
        refine rm_getA 17 dX12_isPlain_28 ha zf_rowKind (by decide) rfl ?_
        refine mm_iload_n dX12_isPlain_31 rfl 1 rfl ?_
        refine rm_iald (k := 17) dX12_isPlain_32 ha rfl rfl rfl (show i < 24 from (by omega)) ?_
        have qa33 := (hrow (i) (by omega)).2.2.2.1
        have qb33 := (hrow (i) (by omega)).2.2.2.2
        refine mn_top (u := .int (nI (w.2.2.1 (i)))) (congrArg Value.int ((hrow (i) (by omega)).2.1)) ?_
        refine mm_iload_n dX12_isPlain_33 rfl 2 rfl ?_
        refine mn_icmp_ne (tgt := 41) dX12_isPlain_34 (by decide) (by omega) (by omega) (fun c34 => ?_) (fun c34 => ?_)
        · refine mm_iconst (v := nI 0) dX12_isPlain_41 (by decide) ?_
          exact mm_zret dX12_isPlain_42 rfl (by decide) (⟨rfl, by rw [show ro_plain w i k = false from by unfold ro_plain; first | (simp_all; done) | (simp_all; omega)]; rfl⟩)
        · refine mm_iconst (v := nI 1) dX12_isPlain_37 (by decide) ?_
          refine mm_goto (tgt := 42) dX12_isPlain_38 (by decide) ?_
          exact mm_zret dX12_isPlain_42 rfl (by decide) (⟨rfl, by rw [show ro_plain w i k = true from by unfold ro_plain; first | (simp_all; done) | (simp_all; omega)]; rfl⟩)
set_option maxRecDepth 100000 in
set_option maxHeartbeats 4000000 in
theorem tm_isDyed {l : Launch} {D : va_G} {aa : Nat → ClassId} {b0 : Nat} {h : mm_H} {o : Nat} {F : Nat → Int32} {G : Nat → Int64} {A : Nat → Nat → Int32} {B : Nat → Nat → Int64} (ha : rm_at o F G A B h) {w : ro_w} (hw : ro_at F A w) {i k : Nat} (hi : i < 100) (hk : k < 100) : mm_V (zz_K l D aa b0) 0 yX12_isDyed cX12_isDyed 3 (some .boolean) 0 [(0, .ref (o)), (1, .int (nI (i))), (2, .int (nI (k)))] [] h 0 0 (fun r h' => h' = h ∧ r = some (.int (nI (Bool.toNat (ro_dyed w i k))))) := by
  obtain ⟨hn, h15, hrow⟩ := hw
  refine mm_iload_n dX12_isDyed_0 rfl 1 rfl ?_
  refine mm_aload_n dX12_isDyed_1 rfl 0 rfl ?_
  refine rm_getI 15 dX12_isDyed_2 ha zf_size (by decide) rfl rfl ?_
  refine mn_top (u := .int (nI (w.1))) (congrArg Value.int ((h15))) ?_
  refine mn_icmp_ge (tgt := 41) dX12_isDyed_5 (by decide) (by omega) (by omega) (fun c5 => ?_) (fun c5 => ?_)
  · refine mm_iconst (v := nI 0) dX12_isDyed_41 (by decide) ?_
    exact mm_zret dX12_isDyed_42 rfl (by decide) (⟨rfl, by rw [show ro_dyed w i k = false from by unfold ro_dyed; first | (simp_all; done) | (simp_all; omega)]; rfl⟩)
  · refine mm_aload_n dX12_isDyed_8 rfl 0 rfl ?_
    refine rm_getA 16 dX12_isDyed_9 ha zf_rowSort (by decide) rfl ?_
    refine mm_iload_n dX12_isDyed_12 rfl 1 rfl ?_
    refine rm_iald (k := 16) dX12_isDyed_13 ha rfl rfl rfl (show i < 24 from (by omega)) ?_
    have qa14 := (hrow (i) (by omega)).2.2.2.1
    have qb14 := (hrow (i) (by omega)).2.2.2.2
    refine mn_top (u := .int (nI (w.2.1 (i)))) (congrArg Value.int ((hrow (i) (by omega)).1)) ?_
    refine mm_iconst (v := nI 1) dX12_isDyed_14 (by decide) ?_
    refine mn_icmp_ne (tgt := 41) dX12_isDyed_15 (by decide) (by omega) (by omega) (fun c15 => ?_) (fun c15 => ?_)
    · refine mm_iconst (v := nI 0) dX12_isDyed_41 (by decide) ?_
      exact mm_zret dX12_isDyed_42 rfl (by decide) (⟨rfl, by rw [show ro_dyed w i k = false from by unfold ro_dyed; first | (simp_all; done) | (simp_all; omega)]; rfl⟩)
    · refine mm_aload_n dX12_isDyed_18 rfl 0 rfl ?_
      refine rm_getA 18 dX12_isDyed_19 ha zf_rowColoured (by decide) rfl ?_
      refine mm_iload_n dX12_isDyed_22 rfl 1 rfl ?_
      refine rm_zald (k := 18) dX12_isDyed_23 ha rfl rfl rfl (show i < 24 from (by omega)) ?_
      have qa24 := (hrow (i) (by omega)).2.2.2.1
      have qb24 := (hrow (i) (by omega)).2.2.2.2
      refine mn_top (u := .int (nI (Bool.toNat (w.2.2.2 (i))))) (congrArg Value.int ((hrow (i) (by omega)).2.2.1)) ?_
      refine mn_ifB_eq (tgt := 41) dX12_isDyed_24 (by decide) (fun c24 => ?_) (fun c24 => ?_)
      · refine mm_iconst (v := nI 0) dX12_isDyed_41 (by decide) ?_
        exact mm_zret dX12_isDyed_42 rfl (by decide) (⟨rfl, by rw [show ro_dyed w i k = false from by unfold ro_dyed; first | (simp_all; done) | (simp_all; omega)]; rfl⟩)
      · refine mm_aload_n dX12_isDyed_27 rfl 0 rfl ?_
        refine rm_getA 17 dX12_isDyed_28 ha zf_rowKind (by decide) rfl ?_
        refine mm_iload_n dX12_isDyed_31 rfl 1 rfl ?_
        refine rm_iald (k := 17) dX12_isDyed_32 ha rfl rfl rfl (show i < 24 from (by omega)) ?_
        have qa33 := (hrow (i) (by omega)).2.2.2.1
        have qb33 := (hrow (i) (by omega)).2.2.2.2
        refine mn_top (u := .int (nI (w.2.2.1 (i)))) (congrArg Value.int ((hrow (i) (by omega)).2.1)) ?_
        refine mm_iload_n dX12_isDyed_33 rfl 2 rfl ?_
        refine mn_icmp_ne (tgt := 41) dX12_isDyed_34 (by decide) (by omega) (by omega) (fun c34 => ?_) (fun c34 => ?_)
        · refine mm_iconst (v := nI 0) dX12_isDyed_41 (by decide) ?_
          exact mm_zret dX12_isDyed_42 rfl (by decide) (⟨rfl, by rw [show ro_dyed w i k = false from by unfold ro_dyed; first | (simp_all; done) | (simp_all; omega)]; rfl⟩)
        · refine mm_iconst (v := nI 1) dX12_isDyed_37 (by decide) ?_
          refine mm_goto (tgt := 42) dX12_isDyed_38 (by decide) ?_
          exact mm_zret dX12_isDyed_42 rfl (by decide) (⟨rfl, by rw [show ro_dyed w i k = true from by unfold ro_dyed; first | (simp_all; done) | (simp_all; omega)]; rfl⟩)
set_option maxRecDepth 100000 in
set_option maxHeartbeats 4000000 in
theorem tm_isRest {l : Launch} {D : va_G} {aa : Nat → ClassId} {b0 : Nat} {h : mm_H} {o : Nat} {F : Nat → Int32} {G : Nat → Int64} {A : Nat → Nat → Int32} {B : Nat → Nat → Int64} (ha : rm_at o F G A B h) {w : ro_w} (hw : ro_at F A w) {i k : Nat} (hi : i < 100) (hk : k < 100) : mm_V (zz_K l D aa b0) 0 yX12_isRest cX12_isRest 3 (some .boolean) 0 [(0, .ref (o)), (1, .int (nI (i))), (2, .int (nI (k)))] [] h 0 0 (fun r h' => h' = h ∧ r = some (.int (nI (Bool.toNat (ro_rest w i k))))) := by
  obtain ⟨hn, h15, hrow⟩ := hw
  refine mm_iload_n dX12_isRest_0 rfl 1 rfl ?_
  refine mm_aload_n dX12_isRest_1 rfl 0 rfl ?_
  refine rm_getI 15 dX12_isRest_2 ha zf_size (by decide) rfl rfl ?_
  refine mn_top (u := .int (nI (w.1))) (congrArg Value.int ((h15))) ?_
  refine mn_icmp_ge (tgt := 32) dX12_isRest_5 (by decide) (by omega) (by omega) (fun c5 => ?_) (fun c5 => ?_)
  · refine mm_iconst (v := nI 0) dX12_isRest_32 (by decide) ?_
    exact mm_zret dX12_isRest_33 rfl (by decide) (⟨rfl, by rw [show ro_rest w i k = false from by unfold ro_rest; first | (simp_all; done) | (simp_all; omega)]; rfl⟩)
  · refine mm_aload_n dX12_isRest_8 rfl 0 rfl ?_
    refine rm_getA 16 dX12_isRest_9 ha zf_rowSort (by decide) rfl ?_
    refine mm_iload_n dX12_isRest_12 rfl 1 rfl ?_
    refine rm_iald (k := 16) dX12_isRest_13 ha rfl rfl rfl (show i < 24 from (by omega)) ?_
    have qa14 := (hrow (i) (by omega)).2.2.2.1
    have qb14 := (hrow (i) (by omega)).2.2.2.2
    refine mn_top (u := .int (nI (w.2.1 (i)))) (congrArg Value.int ((hrow (i) (by omega)).1)) ?_
    refine mm_iconst (v := nI 2) dX12_isRest_14 (by decide) ?_
    refine mn_icmp_ne (tgt := 32) dX12_isRest_15 (by decide) (by omega) (by omega) (fun c15 => ?_) (fun c15 => ?_)
    · refine mm_iconst (v := nI 0) dX12_isRest_32 (by decide) ?_
      exact mm_zret dX12_isRest_33 rfl (by decide) (⟨rfl, by rw [show ro_rest w i k = false from by unfold ro_rest; first | (simp_all; done) | (simp_all; omega)]; rfl⟩)
    · refine mm_aload_n dX12_isRest_18 rfl 0 rfl ?_
      refine rm_getA 17 dX12_isRest_19 ha zf_rowKind (by decide) rfl ?_
      refine mm_iload_n dX12_isRest_22 rfl 1 rfl ?_
      refine rm_iald (k := 17) dX12_isRest_23 ha rfl rfl rfl (show i < 24 from (by omega)) ?_
      have qa24 := (hrow (i) (by omega)).2.2.2.1
      have qb24 := (hrow (i) (by omega)).2.2.2.2
      refine mn_top (u := .int (nI (w.2.2.1 (i)))) (congrArg Value.int ((hrow (i) (by omega)).2.1)) ?_
      refine mm_iload_n dX12_isRest_24 rfl 2 rfl ?_
      refine mn_icmp_ne (tgt := 32) dX12_isRest_25 (by decide) (by omega) (by omega) (fun c25 => ?_) (fun c25 => ?_)
      · refine mm_iconst (v := nI 0) dX12_isRest_32 (by decide) ?_
        exact mm_zret dX12_isRest_33 rfl (by decide) (⟨rfl, by rw [show ro_rest w i k = false from by unfold ro_rest; first | (simp_all; done) | (simp_all; omega)]; rfl⟩)
      · refine mm_iconst (v := nI 1) dX12_isRest_28 (by decide) ?_
        refine mm_goto (tgt := 33) dX12_isRest_29 (by decide) ?_
        exact mm_zret dX12_isRest_33 rfl (by decide) (⟨rfl, by rw [show ro_rest w i k = true from by unfold ro_rest; first | (simp_all; done) | (simp_all; omega)]; rfl⟩)
set_option maxRecDepth 100000 in
set_option maxHeartbeats 4000000 in
theorem tm_isDot {l : Launch} {D : va_G} {aa : Nat → ClassId} {b0 : Nat} {h : mm_H} {o : Nat} {F : Nat → Int32} {G : Nat → Int64} {A : Nat → Nat → Int32} {B : Nat → Nat → Int64} (ha : rm_at o F G A B h) {w : ro_w} (hw : ro_at F A w) {i : Nat} (hi : i < 100) : mm_V (zz_K l D aa b0) 0 yX12_isDot cX12_isDot 2 (some .boolean) 0 [(0, .ref (o)), (1, .int (nI (i)))] [] h 0 0 (fun r h' => h' = h ∧ r = some (.int (nI (Bool.toNat (ro_dot w i))))) := by
  obtain ⟨hn, h15, hrow⟩ := hw
  refine mm_iload_n dX12_isDot_0 rfl 1 rfl ?_
  refine mn_if_lt (tgt := 26) dX12_isDot_1 (by decide) (by omega) ?_
  refine mm_iload_n dX12_isDot_4 rfl 1 rfl ?_
  refine mm_aload_n dX12_isDot_5 rfl 0 rfl ?_
  refine rm_getI 15 dX12_isDot_6 ha zf_size (by decide) rfl rfl ?_
  refine mn_top (u := .int (nI (w.1))) (congrArg Value.int ((h15))) ?_
  refine mn_icmp_ge (tgt := 26) dX12_isDot_9 (by decide) (by omega) (by omega) (fun c9 => ?_) (fun c9 => ?_)
  · refine mm_iconst (v := nI 0) dX12_isDot_26 (by decide) ?_
    exact mm_zret dX12_isDot_27 rfl (by decide) (⟨rfl, by rw [show ro_dot w i = false from by unfold ro_dot; first | (simp_all; done) | (simp_all; omega)]; rfl⟩)
  · refine mm_aload_n dX12_isDot_12 rfl 0 rfl ?_
    refine rm_getA 16 dX12_isDot_13 ha zf_rowSort (by decide) rfl ?_
    refine mm_iload_n dX12_isDot_16 rfl 1 rfl ?_
    refine rm_iald (k := 16) dX12_isDot_17 ha rfl rfl rfl (show i < 24 from (by omega)) ?_
    have qa18 := (hrow (i) (by omega)).2.2.2.1
    have qb18 := (hrow (i) (by omega)).2.2.2.2
    refine mn_top (u := .int (nI (w.2.1 (i)))) (congrArg Value.int ((hrow (i) (by omega)).1)) ?_
    refine mm_iconst (v := nI 3) dX12_isDot_18 (by decide) ?_
    refine mn_icmp_ne (tgt := 26) dX12_isDot_19 (by decide) (by omega) (by omega) (fun c19 => ?_) (fun c19 => ?_)
    · refine mm_iconst (v := nI 0) dX12_isDot_26 (by decide) ?_
      exact mm_zret dX12_isDot_27 rfl (by decide) (⟨rfl, by rw [show ro_dot w i = false from by unfold ro_dot; first | (simp_all; done) | (simp_all; omega)]; rfl⟩)
    · refine mm_iconst (v := nI 1) dX12_isDot_22 (by decide) ?_
      refine mm_goto (tgt := 27) dX12_isDot_23 (by decide) ?_
      exact mm_zret dX12_isDot_27 rfl (by decide) (⟨rfl, by rw [show ro_dot w i = true from by unfold ro_dot; first | (simp_all; done) | (simp_all; omega)]; rfl⟩)
