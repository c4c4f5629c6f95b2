/-! the reference: symbols put down -/
set_option maxRecDepth 100000 in
set_option maxHeartbeats 4000000 in
theorem tM_count {l : Launch} {D : va_G} {aa : Nat → ClassId} {b0 : Nat} {h : mm_H} {o : Nat} {F : Nat → Int32} {G : Nat → Int64} {A : Nat → Nat → Int32} {B : Nat → Nat → Int64} {s : aS} {w : Nat} (ha : rm_at o F G A B h) (hW : WF s) (hI : RI s F A B) (hw3 : w < 3) : mm_V (zz_K l D aa b0) 3 yX12_count cX12_count 4 (some .int) 0 [(0, .ref (o)), (1, .int (nI (w)))] [] h 0 0 (fun r h' => h' = h ∧ r = some (.int (nI (cntA s w)))) := by
  have hf : rm_fr o h h := rm_fr.rf
  have hw : w = 0 ∨ w = 1 ∨ w = 2 := by omega
  rcases hw with rfl | rfl | rfl
  · have hnv6 := hW.1.1
    have hz : ∀ i, i < 6 → aSz s i ≤ 24 := fun i hi => (hW.2.1 i hi).1.2
    refine mm_iconst (v := nI 0) dX12_count_0 (by decide) ?_
    refine mm_istore_n (L' := [(2, .int (nI (0))), (0, .ref (o)), (1, .int (nI (0)))]) dX12_count_1 rfl (by decide) rfl ?_
    refine mm_iconst (v := nI 0) dX12_count_2 (by decide) ?_
    refine mm_istore_n (L' := [(3, .int (nI (0))), (2, .int (nI (0))), (0, .ref (o)), (1, .int (nI (0)))]) dX12_count_3 rfl (by decide) rfl ?_
    refine mn_sub [0, 1, 2, 3] rfl ?_
    suffices lp : ∀ (m n : Nat), n + m = aNv s → mm_V (zz_K l D aa b0) 3 yX12_count cX12_count 4 (some .int) 4 [(3, .int (nI (n))), (2, .int (nI (smN (aSz s) n))), (0, .ref (o)), (1, .int (nI (0)))] [] h 0 0 (fun r h' => h' = h ∧ r = some (.int (nI (cntA s 0)))) from lp (aNv s) 0 (by omega)
    intro m
    induction m with
    | zero =>
      intro n hm
      have hsm := smN_le (f := aSz s) (c := 24) n (fun i hi => hz i (by omega))
      refine mm_iload_n dX12_count_4 rfl 0 rfl ?_
      refine mm_aload_n dX12_count_5 rfl 2 rfl ?_
      refine rm_getI 0 dX12_count_6 ha zf_voices (by decide) rfl rfl ?_
      refine mn_top (u := .int (nI (aNv s))) (congrArg Value.int ((hI.1.1.1))) ?_
      refine mn_icmp_ge (tgt := 27) dX12_count_9 (by decide) (by omega) (by omega) (fun c9 => ?_) (fun c9 => ?_)
      · have e : n = aNv s := by omega
        subst e
        refine mm_iload_n dX12_count_27 rfl 3 rfl ?_
        refine mn_if_ne (tgt := 38) dX12_count_28 (by decide) (by omega) (fun c28 => ?_) (fun c28 => ?_)
        · omega
        · refine mm_aload_n dX12_count_31 rfl 2 rfl ?_
          refine rm_getI 0 dX12_count_32 ha zf_voices (by decide) rfl rfl ?_
          refine mn_top (u := .int (nI (aNv s))) (congrArg Value.int ((hI.1.1.1))) ?_
          refine mm_goto (tgt := 61) dX12_count_35 (by decide) ?_
          exact mm_iret dX12_count_61 rfl (⟨rfl, rfl⟩)
      · omega
    | succ m ih =>
      intro n hm
      have hsm := smN_le (f := aSz s) (c := 24) n (fun i hi => hz i (by omega))
      refine mm_iload_n dX12_count_4 rfl 0 rfl ?_
      refine mm_aload_n dX12_count_5 rfl 2 rfl ?_
      refine rm_getI 0 dX12_count_6 ha zf_voices (by decide) rfl rfl ?_
      refine mn_top (u := .int (nI (aNv s))) (congrArg Value.int ((hI.1.1.1))) ?_
      refine mn_icmp_ge (tgt := 27) dX12_count_9 (by decide) (by omega) (by omega) (fun c9 => ?_) (fun c9 => ?_)
      · omega
      · have v2 := (hI.1.2 n (by omega)).2.1.1
        have hzn := hz n (by omega)
        refine mm_iload_n dX12_count_12 rfl 1 rfl ?_
        refine mm_aload_n dX12_count_13 rfl 2 rfl ?_
        refine rm_getA 2 dX12_count_14 ha zf_sizeOf (by decide) rfl ?_
        refine mm_iload_n dX12_count_17 rfl 0 rfl ?_
        refine rm_iald (k := 2) dX12_count_18 ha rfl rfl rfl (show n < 6 from (by omega)) ?_
        refine mn_top (u := .int (nI (aSz s n))) (congrArg Value.int (v2)) ?_
        refine mn_iadd dX12_count_19 ?_
        refine mn_top (u := .int (nI (smN (aSz s) (n + 1)))) (congrArg Value.int (rfl)) ?_
        refine mm_istore_n (L' := [(2, .int (nI (smN (aSz s) (n + 1)))), (3, .int (nI (n))), (0, .ref (o)), (1, .int (nI (0)))]) dX12_count_20 rfl (by decide) rfl ?_
        refine mn_iinc (m := 1) (L' := [(3, .int (nI (n + 1))), (2, .int (nI (smN (aSz s) (n + 1)))), (0, .ref (o)), (1, .int (nI (0)))]) dX12_count_21 (by decide) 1 rfl (by decide) rfl ?_
        refine mm_goto (tgt := 4) dX12_count_24 (by decide) ?_
        refine mn_sub [0, 1, 2, 3] rfl ?_
        exact ih (n + 1) (by omega)
  · have hnv6 := hW.1.1
    have hz : ∀ i, i < 6 → aSz s i ≤ 24 := fun i hi => (hW.2.1 i hi).1.2
    refine mm_iconst (v := nI 0) dX12_count_0 (by decide) ?_
    refine mm_istore_n (L' := [(2, .int (nI (0))), (0, .ref (o)), (1, .int (nI (1)))]) dX12_count_1 rfl (by decide) rfl ?_
    refine mm_iconst (v := nI 0) dX12_count_2 (by decide) ?_
    refine mm_istore_n (L' := [(3, .int (nI (0))), (2, .int (nI (0))), (0, .ref (o)), (1, .int (nI (1)))]) dX12_count_3 rfl (by decide) rfl ?_
    refine mn_sub [0, 1, 2, 3] rfl ?_
    suffices lp : ∀ (m n : Nat), n + m = aNv s → mm_V (zz_K l D aa b0) 3 yX12_count cX12_count 4 (some .int) 4 [(3, .int (nI (n))), (2, .int (nI (smN (aSz s) n))), (0, .ref (o)), (1, .int (nI (1)))] [] h 0 0 (fun r h' => h' = h ∧ r = some (.int (nI (cntA s 1)))) from lp (aNv s) 0 (by omega)
    intro m
    induction m with
    | zero =>
      intro n hm
      have hsm := smN_le (f := aSz s) (c := 24) n (fun i hi => hz i (by omega))
      refine mm_iload_n dX12_count_4 rfl 0 rfl ?_
      refine mm_aload_n dX12_count_5 rfl 2 rfl ?_
      refine rm_getI 0 dX12_count_6 ha zf_voices (by decide) rfl rfl ?_
      refine mn_top (u := .int (nI (aNv s))) (congrArg Value.int ((hI.1.1.1))) ?_
      refine mn_icmp_ge (tgt := 27) dX12_count_9 (by decide) (by omega) (by omega) (fun c9 => ?_) (fun c9 => ?_)
      · have e : n = aNv s := by omega
        subst e
        refine mm_iload_n dX12_count_27 rfl 3 rfl ?_
        refine mn_if_ne (tgt := 38) dX12_count_28 (by decide) (by omega) (fun c28 => ?_) (fun c28 => ?_)
        · refine mm_iload_n dX12_count_38 rfl 3 rfl ?_
          refine mm_iconst (v := nI 1) dX12_count_39 (by decide) ?_
          refine mn_icmp_ne (tgt := 50) dX12_count_40 (by decide) (by omega) (by omega) (fun c40 => ?_) (fun c40 => ?_)
          · omega
          · refine mm_aload_n dX12_count_43 rfl 2 rfl ?_
            refine rm_getI 48 dX12_count_44 ha zf_followers (by decide) rfl rfl ?_
            refine mn_top (u := .int (nI (aNf s))) (congrArg Value.int ((hI.2.2.2.2.1.1))) ?_
            refine mm_goto (tgt := 61) dX12_count_47 (by decide) ?_
            exact mm_iret dX12_count_61 rfl (⟨rfl, rfl⟩)
        · omega
      · omega
    | succ m ih =>
      intro n hm
      have hsm := smN_le (f := aSz s) (c := 24) n (fun i hi => hz i (by omega))
      refine mm_iload_n dX12_count_4 rfl 0 rfl ?_
      refine mm_aload_n dX12_count_5 rfl 2 rfl ?_
      refine rm_getI 0 dX12_count_6 ha zf_voices (by decide) rfl rfl ?_
      refine mn_top (u := .int (nI (aNv s))) (congrArg Value.int ((hI.1.1.1))) ?_
      refine mn_icmp_ge (tgt := 27) dX12_count_9 (by decide) (by omega) (by omega) (fun c9 => ?_) (fun c9 => ?_)
      · omega
      · have v2 := (hI.1.2 n (by omega)).2.1.1
        have hzn := hz n (by omega)
        refine mm_iload_n dX12_count_12 rfl 1 rfl ?_
        refine mm_aload_n dX12_count_13 rfl 2 rfl ?_
        refine rm_getA 2 dX12_count_14 ha zf_sizeOf (by decide) rfl ?_
        refine mm_iload_n dX12_count_17 rfl 0 rfl ?_
        refine rm_iald (k := 2) dX12_count_18 ha rfl rfl rfl (show n < 6 from (by omega)) ?_
        refine mn_top (u := .int (nI (aSz s n))) (congrArg Value.int (v2)) ?_
        refine mn_iadd dX12_count_19 ?_
        refine mn_top (u := .int (nI (smN (aSz s) (n + 1)))) (congrArg Value.int (rfl)) ?_
        refine mm_istore_n (L' := [(2, .int (nI (smN (aSz s) (n + 1)))), (3, .int (nI (n))), (0, .ref (o)), (1, .int (nI (1)))]) dX12_count_20 rfl (by decide) rfl ?_
        refine mn_iinc (m := 1) (L' := [(3, .int (nI (n + 1))), (2, .int (nI (smN (aSz s) (n + 1)))), (0, .ref (o)), (1, .int (nI (1)))]) dX12_count_21 (by decide) 1 rfl (by decide) rfl ?_
        refine mm_goto (tgt := 4) dX12_count_24 (by decide) ?_
        refine mn_sub [0, 1, 2, 3] rfl ?_
        exact ih (n + 1) (by omega)
  · have hnv6 := hW.1.1
    have hz : ∀ i, i < 6 → aSz s i ≤ 24 := fun i hi => (hW.2.1 i hi).1.2
    refine mm_iconst (v := nI 0) dX12_count_0 (by decide) ?_
    refine mm_istore_n (L' := [(2, .int (nI (0))), (0, .ref (o)), (1, .int (nI (2)))]) dX12_count_1 rfl (by decide) rfl ?_
    refine mm_iconst (v := nI 0) dX12_count_2 (by decide) ?_
    refine mm_istore_n (L' := [(3, .int (nI (0))), (2, .int (nI (0))), (0, .ref (o)), (1, .int (nI (2)))]) dX12_count_3 rfl (by decide) rfl ?_
    refine mn_sub [0, 1, 2, 3] rfl ?_
    suffices lp : ∀ (m n : Nat), n + m = aNv s → mm_V (zz_K l D aa b0) 3 yX12_count cX12_count 4 (some .int) 4 [(3, .int (nI (n))), (2, .int (nI (smN (aSz s) n))), (0, .ref (o)), (1, .int (nI (2)))] [] h 0 0 (fun r h' => h' = h ∧ r = some (.int (nI (cntA s 2)))) from lp (aNv s) 0 (by omega)
    intro m
    induction m with
    | zero =>
      intro n hm
      have hsm := smN_le (f := aSz s) (c := 24) n (fun i hi => hz i (by omega))
      refine mm_iload_n dX12_count_4 rfl 0 rfl ?_
      refine mm_aload_n dX12_count_5 rfl 2 rfl ?_
      refine rm_getI 0 dX12_count_6 ha zf_voices (by decide) rfl rfl ?_
      refine mn_top (u := .int (nI (aNv s))) (congrArg Value.int ((hI.1.1.1))) ?_
      refine mn_icmp_ge (tgt := 27) dX12_count_9 (by decide) (by omega) (by omega) (fun c9 => ?_) (fun c9 => ?_)
      · have e : n = aNv s := by omega
        subst e
        refine mm_iload_n dX12_count_27 rfl 3 rfl ?_
        refine mn_if_ne (tgt := 38) dX12_count_28 (by decide) (by omega) (fun c28 => ?_) (fun c28 => ?_)
        · refine mm_iload_n dX12_count_38 rfl 3 rfl ?_
          refine mm_iconst (v := nI 1) dX12_count_39 (by decide) ?_
          refine mn_icmp_ne (tgt := 50) dX12_count_40 (by decide) (by omega) (by omega) (fun c40 => ?_) (fun c40 => ?_)
          · refine mm_iload_n dX12_count_50 rfl 3 rfl ?_
            refine mm_iconst (v := nI 2) dX12_count_51 (by decide) ?_
            refine mn_icmp_ne (tgt := 59) dX12_count_52 (by decide) (by omega) (by omega) (fun c52 => ?_) (fun c52 => ?_)
            · omega
            · refine mm_iload_n dX12_count_55 rfl 1 rfl ?_
              refine mm_goto (tgt := 61) dX12_count_56 (by decide) ?_
              exact mm_iret dX12_count_61 rfl (⟨rfl, rfl⟩)
          · omega
        · omega
      · omega
    | succ m ih =>
      intro n hm
      have hsm := smN_le (f := aSz s) (c := 24) n (fun i hi => hz i (by omega))
      refine mm_iload_n dX12_count_4 rfl 0 rfl ?_
      refine mm_aload_n dX12_count_5 rfl 2 rfl ?_
      refine rm_getI 0 dX12_count_6 ha zf_voices (by decide) rfl rfl ?_
      refine mn_top (u := .int (nI (aNv s))) (congrArg Value.int ((hI.1.1.1))) ?_
      refine mn_icmp_ge (tgt := 27) dX12_count_9 (by decide) (by omega) (by omega) (fun c9 => ?_) (fun c9 => ?_)
      · omega
      · have v2 := (hI.1.2 n (by omega)).2.1.1
        have hzn := hz n (by omega)
        refine mm_iload_n dX12_count_12 rfl 1 rfl ?_
        refine mm_aload_n dX12_count_13 rfl 2 rfl ?_
        refine rm_getA 2 dX12_count_14 ha zf_sizeOf (by decide) rfl ?_
        refine mm_iload_n dX12_count_17 rfl 0 rfl ?_
        refine rm_iald (k := 2) dX12_count_18 ha rfl rfl rfl (show n < 6 from (by omega)) ?_
        refine mn_top (u := .int (nI (aSz s n))) (congrArg Value.int (v2)) ?_
        refine mn_iadd dX12_count_19 ?_
        refine mn_top (u := .int (nI (smN (aSz s) (n + 1)))) (congrArg Value.int (rfl)) ?_
        refine mm_istore_n (L' := [(2, .int (nI (smN (aSz s) (n + 1)))), (3, .int (nI (n))), (0, .ref (o)), (1, .int (nI (2)))]) dX12_count_20 rfl (by decide) rfl ?_
        refine mn_iinc (m := 1) (L' := [(3, .int (nI (n + 1))), (2, .int (nI (smN (aSz s) (n + 1)))), (0, .ref (o)), (1, .int (nI (2)))]) dX12_count_21 (by decide) 1 rfl (by decide) rfl ?_
        refine mm_goto (tgt := 4) dX12_count_24 (by decide) ?_
        refine mn_sub [0, 1, 2, 3] rfl ?_
        exact ih (n + 1) (by omega)
set_option maxRecDepth 100000 in
set_option maxHeartbeats 4000000 in
theorem tM_countO {l : Launch} {D : va_G} {aa : Nat → ClassId} {b0 : Nat} {h : mm_H} {o : Nat} {F : Nat → Int32} {G : Nat → Int64} {A : Nat → Nat → Int32} {B : Nat → Nat → Int64} {s : aS} {w : Int32} (ha : rm_at o F G A B h) (hW : WF s) (hI : RI s F A B) (hw : w < 0 ∨ nI 3 ≤ w) : mm_V (zz_K l D aa b0) 3 yX12_count cX12_count 4 (some .int) 0 [(0, .ref (o)), (1, .int (w))] [] h 0 0 (fun r h' => h' = h ∧ r = some (.int (-2))) := by
  have hf : rm_fr o h h := rm_fr.rf
  have hnv6 := hW.1.1
  have hz : ∀ i, i < 6 → aSz s i ≤ 24 := fun i hi => (hW.2.1 i hi).1.2
  refine mm_iconst (v := nI 0) dX12_count_0 (by decide) ?_
  refine mm_istore_n (L' := [(2, .int (nI (0))), (0, .ref (o)), (1, .int (w))]) dX12_count_1 rfl (by decide) rfl ?_
  refine mm_iconst (v := nI 0) dX12_count_2 (by decide) ?_
  refine mm_istore_n (L' := [(3, .int (nI (0))), (2, .int (nI (0))), (0, .ref (o)), (1, .int (w))]) dX12_count_3 rfl (by decide) rfl ?_
  refine mn_sub [0, 1, 2, 3] rfl ?_
  suffices lp : ∀ (m n : Nat), n + m = aNv s → mm_V (zz_K l D aa b0) 3 yX12_count cX12_count 4 (some .int) 4 [(3, .int (nI (n))), (2, .int (nI (smN (aSz s) n))), (0, .ref (o)), (1, .int (w))] [] h 0 0 (fun r h' => h' = h ∧ r = some (.int (-2))) from lp (aNv s) 0 (by omega)
  intro m
  induction m with
  | zero =>
    intro n hm
    have hsm := smN_le (f := aSz s) (c := 24) n (fun i hi => hz i (by omega))
    refine mm_iload_n dX12_count_4 rfl 0 rfl ?_
    refine mm_aload_n dX12_count_5 rfl 2 rfl ?_
    refine rm_getI 0 dX12_count_6 ha zf_voices (by decide) rfl rfl ?_
    refine mn_top (u := .int (nI (aNv s))) (congrArg Value.int ((hI.1.1.1))) ?_
    refine mn_icmp_ge (tgt := 27) dX12_count_9 (by decide) (by omega) (by omega) (fun c9 => ?_) (fun c9 => ?_)
    · have e : n = aNv s := by omega
      subst e
      refine mm_iload_n dX12_count_27 rfl 3 rfl ?_
      refine mm_if_ne (tgt := 38) dX12_count_28 (by decide) (fun c28 => ?_) (fun c28 => ?_)
      · refine mm_iload_n dX12_count_38 rfl 3 rfl ?_
        refine mm_iconst (v := nI 1) dX12_count_39 (by decide) ?_
        refine mm_icmp_ne (tgt := 50) dX12_count_40 (by decide) (fun c40 => ?_) (fun c40 => ?_)
        · refine mm_iload_n dX12_count_50 rfl 3 rfl ?_
          refine mm_iconst (v := nI 2) dX12_count_51 (by decide) ?_
          refine mm_icmp_ne (tgt := 59) dX12_count_52 (by decide) (fun c52 => ?_) (fun c52 => ?_)
          · refine mm_bipush (v := (-2)) dX12_count_59 (by decide) ?_
            exact mm_iret dX12_count_61 rfl (⟨rfl, rfl⟩)
          · exact absurd (show w = nI 2 from c52) (fun e => by rw [e] at hw; exact hw.elim (fun q => absurd q (by decide)) (fun q => absurd q (by decide)))
        · exact absurd (show w = nI 1 from c40) (fun e => by rw [e] at hw; exact hw.elim (fun q => absurd q (by decide)) (fun q => absurd q (by decide)))
      · exact absurd (show w = nI 0 from c28) (fun e => by rw [e] at hw; exact hw.elim (fun q => absurd q (by decide)) (fun q => absurd q (by decide)))
    · omega
  | succ m ih =>
    intro n hm
    have hsm := smN_le (f := aSz s) (c := 24) n (fun i hi => hz i (by omega))
    refine mm_iload_n dX12_count_4 rfl 0 rfl ?_
    refine mm_aload_n dX12_count_5 rfl 2 rfl ?_
    refine rm_getI 0 dX12_count_6 ha zf_voices (by decide) rfl rfl ?_
    refine mn_top (u := .int (nI (aNv s))) (congrArg Value.int ((hI.1.1.1))) ?_
    refine mn_icmp_ge (tgt := 27) dX12_count_9 (by decide) (by omega) (by omega) (fun c9 => ?_) (fun c9 => ?_)
    · omega
    · have v2 := (hI.1.2 n (by omega)).2.1.1
      have hzn := hz n (by omega)
      refine mm_iload_n dX12_count_12 rfl 1 rfl ?_
      refine mm_aload_n dX12_count_13 rfl 2 rfl ?_
      refine rm_getA 2 dX12_count_14 ha zf_sizeOf (by decide) rfl ?_
      refine mm_iload_n dX12_count_17 rfl 0 rfl ?_
      refine rm_iald (k := 2) dX12_count_18 ha rfl rfl rfl (show n < 6 from (by omega)) ?_
      refine mn_top (u := .int (nI (aSz s n))) (congrArg Value.int (v2)) ?_
      refine mn_iadd dX12_count_19 ?_
      refine mn_top (u := .int (nI (smN (aSz s) (n + 1)))) (congrArg Value.int (rfl)) ?_
      refine mm_istore_n (L' := [(2, .int (nI (smN (aSz s) (n + 1)))), (3, .int (nI (n))), (0, .ref (o)), (1, .int (w))]) dX12_count_20 rfl (by decide) rfl ?_
      refine mn_iinc (m := 1) (L' := [(3, .int (nI (n + 1))), (2, .int (nI (smN (aSz s) (n + 1)))), (0, .ref (o)), (1, .int (w))]) dX12_count_21 (by decide) 1 rfl (by decide) rfl ?_
      refine mm_goto (tgt := 4) dX12_count_24 (by decide) ?_
      refine mn_sub [0, 1, 2, 3] rfl ?_
      exact ih (n + 1) (by omega)
set_option maxRecDepth 100000 in
set_option maxHeartbeats 4000000 in
theorem tM_change {l : Launch} {D : va_G} {aa : Nat → ClassId} {b0 : Nat} {h : mm_H} {o : Nat} {F : Nat → Int32} {G : Nat → Int64} {A : Nat → Nat → Int32} {B : Nat → Nat → Int64} {n : Nat} (ha : rm_at o F G A B h) (hn6 : n < 6) : mm_V (zz_K l D aa b0) 0 yX12_change cX12_change 2 none 0 [(0, .ref (o)), (1, .int (nI (n)))] [] h 0 0 (fun r h' => r = none ∧ ∃ F' : Nat → Int32, rm_at o F' G (rm_up A 5 (upd (A 5) n (nI 0))) B h' ∧ rm_fr o h h' ∧ F' 42 = (if F 42 = nI n then -1 else F 42) ∧ ∀ j, j ≠ 42 → F' j = F j) := by
  have hf : rm_fr o h h := rm_fr.rf
  refine mm_aload_n dX12_change_0 rfl 0 rfl ?_
  refine rm_getA 5 dX12_change_1 ha zf_pickedOf (by decide) rfl ?_
  refine mm_iload_n dX12_change_4 rfl 1 rfl ?_
  refine mm_iconst (v := nI 0) dX12_change_5 (by decide) ?_
  refine rm_iast (k := 5) dX12_change_6 ha hf rfl rfl rfl (show n < 6 from (by omega)) (fun h ha hf => ?_)
  refine mm_aload_n dX12_change_7 rfl 0 rfl ?_
  refine mm_aload_n dX12_change_8 rfl 0 rfl ?_
  refine rm_getI 42 dX12_change_9 ha zf_ready (by decide) rfl rfl ?_
  refine mm_iload_n dX12_change_12 rfl 1 rfl ?_
  refine mm_icmp_ne (tgt := 20) dX12_change_13 (by decide) (fun c13 => ?_) (fun c13 => ?_)
  · refine mm_aload_n dX12_change_20 rfl 0 rfl ?_
    refine rm_getI 42 dX12_change_21 ha zf_ready (by decide) rfl rfl ?_
    refine rm_putI 42 dX12_change_24 ha hf zf_ready (by decide) rfl rfl rfl rfl (fun h ha hf => ?_)
    exact mm_vret dX12_change_27 rfl (⟨rfl, _, ha, hf, by rw [pk_us, if_neg c13], fun j hj => pk_un hj⟩)
  · refine mm_iconst (v := (-1)) dX12_change_16 (by decide) ?_
    refine mm_goto (tgt := 24) dX12_change_17 (by decide) ?_
    refine rm_putI 42 dX12_change_24 ha hf zf_ready (by decide) rfl rfl rfl rfl (fun h ha hf => ?_)
    exact mm_vret dX12_change_27 rfl (⟨rfl, _, ha, hf, by rw [pk_us, if_pos c13], fun j hj => pk_un hj⟩)
set_option maxRecDepth 100000 in
set_option maxHeartbeats 4000000 in
theorem tM_put {l : Launch} {D : va_G} {aa : Nat → ClassId} {b0 : Nat} {h : mm_H} {o : Nat} {F : Nat → Int32} {G : Nat → Int64} {A : Nat → Nat → Int32} {B : Nat → Nat → Int64} {s : aS} {n so ki : Nat} {pi : Int} {co : Bool} (ha : rm_at o F G A B h) (hW : WF s) (hI : RI s F A B) (hn : n < aNv s) (hroom : aSz s n < 24) (b1 : so < 4) (b2 : ki < 7) (b3 : -40 ≤ pi ∧ pi ≤ 40) : mm_V (zz_K l D aa b0) 1 yX12_put cX12_put 7 (some .int) 0 [(0, .ref (o)), (1, .int (nI (n))), (2, .int (nI (so))), (3, .int (nI (ki))), (4, .int (Int32.ofInt pi)), (5, .int (nI (Bool.toNat (co))))] [] h 0 0 (fun r h' => r = some (.int (nI (aSz s n))) ∧ ∃ (F' : Nat → Int32) (A' : Nat → Nat → Int32), rm_at o F' G A' B h' ∧ rm_fr o h h' ∧ RI (aPut s n so ki pi co) F' A' B) := by
  have hf : rm_fr o h h := rm_fr.rf
  have hn6 : n < 6 := by have := hW.1.1; omega
  have hvok := hW.2.1 n hn6
  have hsz24 : aSz s n ≤ 24 := hvok.1.2
  obtain ⟨⟨v1, w1⟩, ⟨v2, w2⟩, ⟨v3, w3⟩, ⟨v4, w4⟩, v5, w5⟩ := hI.1.2 n hn6
  refine mm_bipush (v := nI 24) dX12_put_0 (by decide) ?_
  refine mm_iload_n dX12_put_2 rfl 1 rfl ?_
  refine mn_imul dX12_put_3 ?_
  refine mm_aload_n dX12_put_4 rfl 0 rfl ?_
  refine rm_getA 2 dX12_put_5 ha zf_sizeOf (by decide) rfl ?_
  refine mm_iload_n dX12_put_8 rfl 1 rfl ?_
  refine rm_iald (k := 2) dX12_put_9 ha rfl rfl rfl (show n < 6 from (by omega)) ?_
  refine mn_top (u := .int (nI (aSz s n))) (congrArg Value.int (v2)) ?_
  refine mn_iadd dX12_put_10 ?_
  refine mm_istore (L' := [(6, .int (nI (((24) * (n)) + (aSz s n)))), (0, .ref (o)), (1, .int (nI (n))), (2, .int (nI (so))), (3, .int (nI (ki))), (4, .int (Int32.ofInt pi)), (5, .int (nI (Bool.toNat (co))))]) dX12_put_11 (by decide) rfl ?_
  refine mm_aload_n dX12_put_13 rfl 1 rfl ?_
  refine rm_getA 6 dX12_put_14 ha zf_sortOf (by decide) rfl ?_
  refine mm_iload dX12_put_17 0 rfl ?_
  refine mm_iload_n dX12_put_19 rfl 3 rfl ?_
  refine rm_iast (k := 6) dX12_put_20 ha hf rfl rfl rfl (show ((24) * (n)) + (aSz s n) < 144 from (by omega)) (fun h ha hf => ?_)
  refine mm_aload_n dX12_put_21 rfl 1 rfl ?_
  refine rm_getA 7 dX12_put_22 ha zf_kindOf (by decide) rfl ?_
  refine mm_iload dX12_put_25 0 rfl ?_
  refine mm_iload_n dX12_put_27 rfl 4 rfl ?_
  refine rm_iast (k := 7) dX12_put_28 ha hf rfl rfl rfl (show ((24) * (n)) + (aSz s n) < 144 from (by omega)) (fun h ha hf => ?_)
  refine mm_aload_n dX12_put_29 rfl 1 rfl ?_
  refine rm_getA 8 dX12_put_30 ha zf_pitchOf (by decide) rfl ?_
  refine mm_iload dX12_put_33 0 rfl ?_
  refine mm_iload dX12_put_35 5 rfl ?_
  refine rm_iast (k := 8) dX12_put_37 ha hf rfl rfl rfl (show ((24) * (n)) + (aSz s n) < 144 from (by omega)) (fun h ha hf => ?_)
  refine mm_aload_n dX12_put_38 rfl 1 rfl ?_
  refine rm_getA 9 dX12_put_39 ha zf_isColoured (by decide) rfl ?_
  refine mm_iload dX12_put_42 0 rfl ?_
  refine mm_iload dX12_put_44 6 rfl ?_
  refine rm_zast (k := 9) dX12_put_46 ha hf rfl rfl rfl (show ((24) * (n)) + (aSz s n) < 144 from (by omega)) (mn_vz _) (fun h ha hf => ?_)
  refine mm_aload_n dX12_put_47 rfl 1 rfl ?_
  refine rm_getA 10 dX12_put_48 ha zf_upAt (by decide) rfl ?_
  refine mm_iload dX12_put_51 0 rfl ?_
  refine mm_aload_n dX12_put_53 rfl 1 rfl ?_
  refine rm_getA 3 dX12_put_54 ha zf_upOf (by decide) rfl ?_
  refine mm_iload_n dX12_put_57 rfl 2 rfl ?_
  refine rm_iald (k := 3) dX12_put_58 ha rfl rfl rfl (show n < 6 from (by omega)) ?_
  refine mn_top (u := .int (nI (aUp s n))) (congrArg Value.int (by rw [rm_up_n (by decide), rm_up_n (by decide), rm_up_n (by decide), rm_up_n (by decide)]; exact v3)) ?_
  refine rm_iast (k := 10) dX12_put_59 ha hf rfl rfl rfl (show ((24) * (n)) + (aSz s n) < 144 from (by omega)) (fun h ha hf => ?_)
  refine mm_aload_n dX12_put_60 rfl 1 rfl ?_
  refine rm_getA 11 dX12_put_61 ha zf_downAt (by decide) rfl ?_
  refine mm_iload dX12_put_64 0 rfl ?_
  refine mm_aload_n dX12_put_66 rfl 1 rfl ?_
  refine rm_getA 4 dX12_put_67 ha zf_downOf (by decide) rfl ?_
  refine mm_iload_n dX12_put_70 rfl 2 rfl ?_
  refine rm_iald (k := 4) dX12_put_71 ha rfl rfl rfl (show n < 6 from (by omega)) ?_
  refine mn_top (u := .int (nI (aDn s n))) (congrArg Value.int (by rw [rm_up_n (by decide), rm_up_n (by decide), rm_up_n (by decide), rm_up_n (by decide), rm_up_n (by decide)]; exact v4)) ?_
  refine rm_iast (k := 11) dX12_put_72 ha hf rfl rfl rfl (show ((24) * (n)) + (aSz s n) < 144 from (by omega)) (fun h ha hf => ?_)
  refine mm_aload_n dX12_put_73 rfl 1 rfl ?_
  refine rm_getA 2 dX12_put_74 ha zf_sizeOf (by decide) rfl ?_
  refine mm_iload_n dX12_put_77 rfl 2 rfl ?_
  refine mm_dup2 dX12_put_78 rfl rfl ?_
  refine rm_iald (k := 2) dX12_put_79 ha rfl rfl rfl (show n < 6 from (by omega)) ?_
  refine mn_top (u := .int (nI (aSz s n))) (congrArg Value.int (by rw [rm_up_n (by decide), rm_up_n (by decide), rm_up_n (by decide), rm_up_n (by decide), rm_up_n (by decide), rm_up_n (by decide)]; exact v2)) ?_
  refine mm_iconst (v := nI 1) dX12_put_80 (by decide) ?_
  refine mn_iadd dX12_put_81 ?_
  refine rm_iast (k := 2) dX12_put_82 ha hf rfl rfl rfl (show n < 6 from (by omega)) (fun h ha hf => ?_)
  obtain ⟨A1, hA1⟩ : ∃ A1, A1 = (rm_up (rm_up (rm_up (rm_up (rm_up (rm_up (rm_up A 6 (upd (A 6) (((24) * (n)) + (aSz s n)) (nI (so)))) 7 (upd ((rm_up A 6 (upd (A 6) (((24) * (n)) + (aSz s n)) (nI (so)))) 7) (((24) * (n)) + (aSz s n)) (nI (ki)))) 8 (upd ((rm_up (rm_up A 6 (upd (A 6) (((24) * (n)) + (aSz s n)) (nI (so)))) 7 (upd ((rm_up A 6 (upd (A 6) (((24) * (n)) + (aSz s n)) (nI (so)))) 7) (((24) * (n)) + (aSz s n)) (nI (ki)))) 8) (((24) * (n)) + (aSz s n)) (Int32.ofInt pi))) 9 (upd ((rm_up (rm_up (rm_up A 6 (upd (A 6) (((24) * (n)) + (aSz s n)) (nI (so)))) 7 (upd ((rm_up A 6 (upd (A 6) (((24) * (n)) + (aSz s n)) (nI (so)))) 7) (((24) * (n)) + (aSz s n)) (nI (ki)))) 8 (upd ((rm_up (rm_up A 6 (upd (A 6) (((24) * (n)) + (aSz s n)) (nI (so)))) 7 (upd ((rm_up A 6 (upd (A 6) (((24) * (n)) + (aSz s n)) (nI (so)))) 7) (((24) * (n)) + (aSz s n)) (nI (ki)))) 8) (((24) * (n)) + (aSz s n)) (Int32.ofInt pi))) 9) (((24) * (n)) + (aSz s n)) (nI (Bool.toNat (co))))) 10 (upd ((rm_up (rm_up (rm_up (rm_up A 6 (upd (A 6) (((24) * (n)) + (aSz s n)) (nI (so)))) 7 (upd ((rm_up A 6 (upd (A 6) (((24) * (n)) + (aSz s n)) (nI (so)))) 7) (((24) * (n)) + (aSz s n)) (nI (ki)))) 8 (upd ((rm_up (rm_up A 6 (upd (A 6) (((24) * (n)) + (aSz s n)) (nI (so)))) 7 (upd ((rm_up A 6 (upd (A 6) (((24) * (n)) + (aSz s n)) (nI (so)))) 7) (((24) * (n)) + (aSz s n)) (nI (ki)))) 8) (((24) * (n)) + (aSz s n)) (Int32.ofInt pi))) 9 (upd ((rm_up (rm_up (rm_up A 6 (upd (A 6) (((24) * (n)) + (aSz s n)) (nI (so)))) 7 (upd ((rm_up A 6 (upd (A 6) (((24) * (n)) + (aSz s n)) (nI (so)))) 7) (((24) * (n)) + (aSz s n)) (nI (ki)))) 8 (upd ((rm_up (rm_up A 6 (upd (A 6) (((24) * (n)) + (aSz s n)) (nI (so)))) 7 (upd ((rm_up A 6 (upd (A 6) (((24) * (n)) + (aSz s n)) (nI (so)))) 7) (((24) * (n)) + (aSz s n)) (nI (ki)))) 8) (((24) * (n)) + (aSz s n)) (Int32.ofInt pi))) 9) (((24) * (n)) + (aSz s n)) (nI (Bool.toNat (co))))) 10) (((24) * (n)) + (aSz s n)) (nI (aUp s n)))) 11 (upd ((rm_up (rm_up (rm_up (rm_up (rm_up A 6 (upd (A 6) (((24) * (n)) + (aSz s n)) (nI (so)))) 7 (upd ((rm_up A 6 (upd (A 6) (((24) * (n)) + (aSz s n)) (nI (so)))) 7) (((24) * (n)) + (aSz s n)) (nI (ki)))) 8 (upd ((rm_up (rm_up A 6 (upd (A 6) (((24) * (n)) + (aSz s n)) (nI (so)))) 7 (upd ((rm_up A 6 (upd (A 6) (((24) * (n)) + (aSz s n)) (nI (so)))) 7) (((24) * (n)) + (aSz s n)) (nI (ki)))) 8) (((24) * (n)) + (aSz s n)) (Int32.ofInt pi))) 9 (upd ((rm_up (rm_up (rm_up A 6 (upd (A 6) (((24) * (n)) + (aSz s n)) (nI (so)))) 7 (upd ((rm_up A 6 (upd (A 6) (((24) * (n)) + (aSz s n)) (nI (so)))) 7) (((24) * (n)) + (aSz s n)) (nI (ki)))) 8 (upd ((rm_up (rm_up A 6 (upd (A 6) (((24) * (n)) + (aSz s n)) (nI (so)))) 7 (upd ((rm_up A 6 (upd (A 6) (((24) * (n)) + (aSz s n)) (nI (so)))) 7) (((24) * (n)) + (aSz s n)) (nI (ki)))) 8) (((24) * (n)) + (aSz s n)) (Int32.ofInt pi))) 9) (((24) * (n)) + (aSz s n)) (nI (Bool.toNat (co))))) 10 (upd ((rm_up (rm_up (rm_up (rm_up A 6 (upd (A 6) (((24) * (n)) + (aSz s n)) (nI (so)))) 7 (upd ((rm_up A 6 (upd (A 6) (((24) * (n)) + (aSz s n)) (nI (so)))) 7) (((24) * (n)) + (aSz s n)) (nI (ki)))) 8 (upd ((rm_up (rm_up A 6 (upd (A 6) (((24) * (n)) + (aSz s n)) (nI (so)))) 7 (upd ((rm_up A 6 (upd (A 6) (((24) * (n)) + (aSz s n)) (nI (so)))) 7) (((24) * (n)) + (aSz s n)) (nI (ki)))) 8) (((24) * (n)) + (aSz s n)) (Int32.ofInt pi))) 9 (upd ((rm_up (rm_up (rm_up A 6 (upd (A 6) (((24) * (n)) + (aSz s n)) (nI (so)))) 7 (upd ((rm_up A 6 (upd (A 6) (((24) * (n)) + (aSz s n)) (nI (so)))) 7) (((24) * (n)) + (aSz s n)) (nI (ki)))) 8 (upd ((rm_up (rm_up A 6 (upd (A 6) (((24) * (n)) + (aSz s n)) (nI (so)))) 7 (upd ((rm_up A 6 (upd (A 6) (((24) * (n)) + (aSz s n)) (nI (so)))) 7) (((24) * (n)) + (aSz s n)) (nI (ki)))) 8) (((24) * (n)) + (aSz s n)) (Int32.ofInt pi))) 9) (((24) * (n)) + (aSz s n)) (nI (Bool.toNat (co))))) 10) (((24) * (n)) + (aSz s n)) (nI (aUp s n)))) 11) (((24) * (n)) + (aSz s n)) (nI (aDn s n)))) 2 (upd ((rm_up (rm_up (rm_up (rm_up (rm_up (rm_up A 6 (upd (A 6) (((24) * (n)) + (aSz s n)) (nI (so)))) 7 (upd ((rm_up A 6 (upd (A 6) (((24) * (n)) + (aSz s n)) (nI (so)))) 7) (((24) * (n)) + (aSz s n)) (nI (ki)))) 8 (upd ((rm_up (rm_up A 6 (upd (A 6) (((24) * (n)) + (aSz s n)) (nI (so)))) 7 (upd ((rm_up A 6 (upd (A 6) (((24) * (n)) + (aSz s n)) (nI (so)))) 7) (((24) * (n)) + (aSz s n)) (nI (ki)))) 8) (((24) * (n)) + (aSz s n)) (Int32.ofInt pi))) 9 (upd ((rm_up (rm_up (rm_up A 6 (upd (A 6) (((24) * (n)) + (aSz s n)) (nI (so)))) 7 (upd ((rm_up A 6 (upd (A 6) (((24) * (n)) + (aSz s n)) (nI (so)))) 7) (((24) * (n)) + (aSz s n)) (nI (ki)))) 8 (upd ((rm_up (rm_up A 6 (upd (A 6) (((24) * (n)) + (aSz s n)) (nI (so)))) 7 (upd ((rm_up A 6 (upd (A 6) (((24) * (n)) + (aSz s n)) (nI (so)))) 7) (((24) * (n)) + (aSz s n)) (nI (ki)))) 8) (((24) * (n)) + (aSz s n)) (Int32.ofInt pi))) 9) (((24) * (n)) + (aSz s n)) (nI (Bool.toNat (co))))) 10 (upd ((rm_up (rm_up (rm_up (rm_up A 6 (upd (A 6) (((24) * (n)) + (aSz s n)) (nI (so)))) 7 (upd ((rm_up A 6 (upd (A 6) (((24) * (n)) + (aSz s n)) (nI (so)))) 7) (((24) * (n)) + (aSz s n)) (nI (ki)))) 8 (upd ((rm_up (rm_up A 6 (upd (A 6) (((24) * (n)) + (aSz s n)) (nI (so)))) 7 (upd ((rm_up A 6 (upd (A 6) (((24) * (n)) + (aSz s n)) (nI (so)))) 7) (((24) * (n)) + (aSz s n)) (nI (ki)))) 8) (((24) * (n)) + (aSz s n)) (Int32.ofInt pi))) 9 (upd ((rm_up (rm_up (rm_up A 6 (upd (A 6) (((24) * (n)) + (aSz s n)) (nI (so)))) 7 (upd ((rm_up A 6 (upd (A 6) (((24) * (n)) + (aSz s n)) (nI (so)))) 7) (((24) * (n)) + (aSz s n)) (nI (ki)))) 8 (upd ((rm_up (rm_up A 6 (upd (A 6) (((24) * (n)) + (aSz s n)) (nI (so)))) 7 (upd ((rm_up A 6 (upd (A 6) (((24) * (n)) + (aSz s n)) (nI (so)))) 7) (((24) * (n)) + (aSz s n)) (nI (ki)))) 8) (((24) * (n)) + (aSz s n)) (Int32.ofInt pi))) 9) (((24) * (n)) + (aSz s n)) (nI (Bool.toNat (co))))) 10) (((24) * (n)) + (aSz s n)) (nI (aUp s n)))) 11 (upd ((rm_up (rm_up (rm_up (rm_up (rm_up A 6 (upd (A 6) (((24) * (n)) + (aSz s n)) (nI (so)))) 7 (upd ((rm_up A 6 (upd (A 6) (((24) * (n)) + (aSz s n)) (nI (so)))) 7) (((24) * (n)) + (aSz s n)) (nI (ki)))) 8 (upd ((rm_up (rm_up A 6 (upd (A 6) (((24) * (n)) + (aSz s n)) (nI (so)))) 7 (upd ((rm_up A 6 (upd (A 6) (((24) * (n)) + (aSz s n)) (nI (so)))) 7) (((24) * (n)) + (aSz s n)) (nI (ki)))) 8) (((24) * (n)) + (aSz s n)) (Int32.ofInt pi))) 9 (upd ((rm_up (rm_up (rm_up A 6 (upd (A 6) (((24) * (n)) + (aSz s n)) (nI (so)))) 7 (upd ((rm_up A 6 (upd (A 6) (((24) * (n)) + (aSz s n)) (nI (so)))) 7) (((24) * (n)) + (aSz s n)) (nI (ki)))) 8 (upd ((rm_up (rm_up A 6 (upd (A 6) (((24) * (n)) + (aSz s n)) (nI (so)))) 7 (upd ((rm_up A 6 (upd (A 6) (((24) * (n)) + (aSz s n)) (nI (so)))) 7) (((24) * (n)) + (aSz s n)) (nI (ki)))) 8) (((24) * (n)) + (aSz s n)) (Int32.ofInt pi))) 9) (((24) * (n)) + (aSz s n)) (nI (Bool.toNat (co))))) 10 (upd ((rm_up (rm_up (rm_up (rm_up A 6 (upd (A 6) (((24) * (n)) + (aSz s n)) (nI (so)))) 7 (upd ((rm_up A 6 (upd (A 6) (((24) * (n)) + (aSz s n)) (nI (so)))) 7) (((24) * (n)) + (aSz s n)) (nI (ki)))) 8 (upd ((rm_up (rm_up A 6 (upd (A 6) (((24) * (n)) + (aSz s n)) (nI (so)))) 7 (upd ((rm_up A 6 (upd (A 6) (((24) * (n)) + (aSz s n)) (nI (so)))) 7) (((24) * (n)) + (aSz s n)) (nI (ki)))) 8) (((24) * (n)) + (aSz s n)) (Int32.ofInt pi))) 9 (upd ((rm_up (rm_up (rm_up A 6 (upd (A 6) (((24) * (n)) + (aSz s n)) (nI (so)))) 7 (upd ((rm_up A 6 (upd (A 6) (((24) * (n)) + (aSz s n)) (nI (so)))) 7) (((24) * (n)) + (aSz s n)) (nI (ki)))) 8 (upd ((rm_up (rm_up A 6 (upd (A 6) (((24) * (n)) + (aSz s n)) (nI (so)))) 7 (upd ((rm_up A 6 (upd (A 6) (((24) * (n)) + (aSz s n)) (nI (so)))) 7) (((24) * (n)) + (aSz s n)) (nI (ki)))) 8) (((24) * (n)) + (aSz s n)) (Int32.ofInt pi))) 9) (((24) * (n)) + (aSz s n)) (nI (Bool.toNat (co))))) 10) (((24) * (n)) + (aSz s n)) (nI (aUp s n)))) 11) (((24) * (n)) + (aSz s n)) (nI (aDn s n)))) 2) (n) (nI ((aSz s n) + (1))))) := ⟨_, rfl⟩
  rw [← hA1] at ha
  refine mm_aload_n dX12_put_83 rfl 1 rfl ?_
  refine mm_iload_n dX12_put_84 rfl 2 rfl ?_
  refine rm_callV (As := [.int (nI (n))]) (rest := []) (d2 := 0) dX12_put_85 ha zc_change zc_change_s rfl rfl rfl (Nat.le_of_ble_eq_true rfl) (Nat.le_of_ble_eq_true rfl) (by decide) (tM_change ha hn6) (fun r h1 hq => ?_)
  obtain ⟨rfl, F2, ha, hf', h42, hF2⟩ := hq
  have hf := hf.tr hf'
  have ga : ∀ j, j ≠ 2 → (j < 5 ∨ 11 < j) → A1 j = A j := fun j n1 n2 => by rw [hA1, rm_up_n n1, rm_up_n (by omega), rm_up_n (by omega), rm_up_n (by omega), rm_up_n (by omega), rm_up_n (by omega), rm_up_n (by omega)]
  have g2 : A1 2 = upd (A 2) n (nI (aSz s n + 1)) := by rw [hA1, rm_up_s, rm_up_n (by decide), rm_up_n (by decide), rm_up_n (by decide), rm_up_n (by decide), rm_up_n (by decide), rm_up_n (by decide)]
  have g6 : A1 6 = upd (A 6) (24 * n + aSz s n) (nI so) := by rw [hA1, rm_up_n (by decide), rm_up_n (by decide), rm_up_n (by decide), rm_up_n (by decide), rm_up_n (by decide), rm_up_n (by decide), rm_up_s]
  have g7 : A1 7 = upd (A 7) (24 * n + aSz s n) (nI ki) := by rw [hA1, rm_up_n (by decide), rm_up_n (by decide), rm_up_n (by decide), rm_up_n (by decide), rm_up_n (by decide), rm_up_s, rm_up_n (by decide)]
  have g8 : A1 8 = upd (A 8) (24 * n + aSz s n) (Int32.ofInt pi) := by rw [hA1, rm_up_n (by decide), rm_up_n (by decide), rm_up_n (by decide), rm_up_n (by decide), rm_up_s, rm_up_n (by decide), rm_up_n (by decide)]
  have g9 : A1 9 = upd (A 9) (24 * n + aSz s n) (nI (Bool.toNat co)) := by rw [hA1, rm_up_n (by decide), rm_up_n (by decide), rm_up_n (by decide), rm_up_s, rm_up_n (by decide), rm_up_n (by decide), rm_up_n (by decide)]
  have g10 : A1 10 = upd (A 10) (24 * n + aSz s n) (nI (aUp s n)) := by rw [hA1, rm_up_n (by decide), rm_up_n (by decide), rm_up_s, rm_up_n (by decide), rm_up_n (by decide), rm_up_n (by decide), rm_up_n (by decide)]
  have g11 : A1 11 = upd (A 11) (24 * n + aSz s n) (nI (aDn s n)) := by rw [hA1, rm_up_n (by decide), rm_up_s, rm_up_n (by decide), rm_up_n (by decide), rm_up_n (by decide), rm_up_n (by decide), rm_up_n (by decide)]
  have g5 : A1 5 = A 5 := by rw [hA1, rm_up_n (by decide), rm_up_n (by decide), rm_up_n (by decide), rm_up_n (by decide), rm_up_n (by decide), rm_up_n (by decide), rm_up_n (by decide)]
  have gz : (rm_up A1 5 (upd (A1 5) n (nI 0))) 2 n = nI (aSz s n + 1) := by rw [rm_up_n (by decide), g2, pk_us]
  refine mm_aload_n dX12_put_88 rfl 1 rfl ?_
  refine rm_getA 2 dX12_put_89 ha zf_sizeOf (by decide) rfl ?_
  refine mm_iload_n dX12_put_92 rfl 2 rfl ?_
  refine rm_iald (k := 2) dX12_put_93 ha rfl rfl rfl (show n < 6 from (by omega)) ?_
  refine mn_top (u := .int (nI (aSz s n + 1))) (congrArg Value.int (gz)) ?_
  refine mm_iconst (v := nI 1) dX12_put_94 (by decide) ?_
  refine mn_isub dX12_put_95 (by omega) ?_
  refine mn_top (u := .int (nI (aSz s n))) (congrArg Value.int (by rw [Nat.add_sub_cancel])) ?_
  exact mm_iret dX12_put_96 rfl (⟨rfl, F2, _, ha, hf, RI_put hW hI hn hroom b1 b2 b3 (by rw [rm_up_n (by decide)]; exact g6) (by rw [rm_up_n (by decide)]; exact g7) (by rw [rm_up_n (by decide)]; exact g8) (by rw [rm_up_n (by decide)]; exact g9) (by rw [rm_up_n (by decide)]; exact g10) (by rw [rm_up_n (by decide)]; exact g11) (by rw [rm_up_n (by decide)]; exact g2) (by rw [rm_up_s, g5]) (fun j n1 n2 => by rw [rm_up_n (by omega)]; exact ga j n1 n2) h42 hF2⟩)
set_option maxRecDepth 100000 in
set_option maxHeartbeats 4000000 in
theorem tM_note {l : Launch} {D : va_G} {aa : Nat → ClassId} {b0 : Nat} {h : mm_H} {o : Nat} {F : Nat → Int32} {G : Nat → Int64} {A : Nat → Nat → Int32} {B : Nat → Nat → Int64} {s : aS} {n : Nat} {ki : Nat} {p : Int32} {co : Bool} (ha : rm_at o F G A B h) (hW : WF s) (hI : RI s F A B) (hn : n < aNv s) (hki : ki < 7) (hp : (-40) ≤ p ∧ p ≤ nI 40) (hroom : aSz s n < 24) : mm_V (zz_K l D aa b0) 3 yX12_note cX12_note 5 (some .int) 0 [(0, .ref (o)), (1, .int (nI (n))), (2, .int (nI (ki))), (3, .int (p)), (4, .int (nI (Bool.toNat (co))))] [] h 0 0 (fun r h' => r = some (.int (nI (aSz s n))) ∧ ∃ (F' : Nat → Int32) (A' : Nat → Nat → Int32), rm_at o F' G A' B h' ∧ rm_fr o h h' ∧ RI (aPut s n 1 ki p.toInt co) F' A' B) := by
  have hf : rm_fr o h h := rm_fr.rf
  have hn6 : n < 6 := by have := hW.1.1; omega
  have hvok := hW.2.1 n hn6
  have hsz24 : aSz s n ≤ 24 := hvok.1.2
  obtain ⟨⟨v1, w1⟩, ⟨v2, w2⟩, ⟨v3, w3⟩, ⟨v4, w4⟩, v5, w5⟩ := hI.1.2 n hn6
  refine mm_aload_n dX12_note_0 rfl 0 rfl ?_
  refine mm_iload_n dX12_note_1 rfl 1 rfl ?_
  refine rm_callVr (As := [.int (nI (n))]) (rest := []) (d2 := 1) dX12_note_2 ha zc_isVoice zc_isVoice_s rfl rfl rfl (Nat.le_of_ble_eq_true rfl) (Nat.le_of_ble_eq_true rfl) (by decide) (tM_isVoice ha hW hI (nI_inb hn (by have := hW.1.1; omega))) ?_
  refine mn_ifB_eq (tgt := 34) dX12_note_5 (by decide) (fun c5 => ?_) (fun c5 => ?_)
  · cases c5
  · refine mm_iload_n dX12_note_8 rfl 2 rfl ?_
    refine mm_i2l dX12_note_9 ?_
    refine mm_lconst (v := lN 0) dX12_note_10 (by decide) ?_
    refine mm_ldc2 (v := (6)) dX12_note_11 zk_133 ?_
    refine mn_top (u := .long (lN (6))) (congrArg Value.long (by decide)) ?_
    refine rm_callSr (As := [.long ((nI (ki)).toInt64), .long (lN (0)), .long (lN (6))]) (rest := []) (d2 := 0) dX12_note_14 zc_isIn rfl rfl (Nat.le_of_ble_eq_true rfl) (Nat.le_of_ble_eq_true rfl) (by decide) (tm_isIn _ _ _) ?_
    refine mn_top (u := .int (nI (Bool.toNat (true)))) (congrArg Value.int (in_t (a := 0) (b := 6) (by decide) (by decide) (by omega) (by omega) ((nI_inb hki (by decide)).imp id (fun z => by omega)))) ?_
    refine mn_ifB_eq (tgt := 34) dX12_note_17 (by decide) (fun c17 => ?_) (fun c17 => ?_)
    · cases c17
    · refine mm_iload_n dX12_note_20 rfl 3 rfl ?_
      refine mm_i2l dX12_note_21 ?_
      refine mm_ldc2 (v := (-40)) dX12_note_22 zk_135 ?_
      refine mm_ldc2 (v := (40)) dX12_note_25 zk_137 ?_
      refine mn_top (u := .long (lN (40))) (congrArg Value.long (by decide)) ?_
      refine rm_callSr (As := [.long ((p).toInt64), .long ((-40)), .long (lN (40))]) (rest := []) (d2 := 0) dX12_note_28 zc_isIn rfl rfl (Nat.le_of_ble_eq_true rfl) (Nat.le_of_ble_eq_true rfl) (by decide) (tm_isIn _ _ _) ?_
      refine mn_top (u := .int (nI (Bool.toNat (true)))) (congrArg Value.int (in_t (a := -40) (b := 40) (by decide) (by decide) (by omega) (by omega) ((i32_pi hp).2))) ?_
      refine mn_ifB_ne (tgt := 37) dX12_note_31 (by decide) (fun c31 => ?_) (fun c31 => ?_)
      · refine mm_aload_n dX12_note_37 rfl 0 rfl ?_
        refine rm_getA 2 dX12_note_38 ha zf_sizeOf (by decide) rfl ?_
        refine mm_iload_n dX12_note_41 rfl 1 rfl ?_
        refine rm_iald (k := 2) dX12_note_42 ha rfl rfl rfl (show n < 6 from (by omega)) ?_
        refine mn_top (u := .int (nI (aSz s n))) (congrArg Value.int (v2)) ?_
        refine mm_bipush (v := nI 24) dX12_note_43 (by decide) ?_
        refine mn_icmp_ne (tgt := 53) dX12_note_45 (by decide) (by omega) (by omega) (fun c45 => ?_) (fun c45 => ?_)
        · refine mm_aload_n dX12_note_53 rfl 0 rfl ?_
          refine mm_iload_n dX12_note_54 rfl 1 rfl ?_
          refine mm_iconst (v := nI 1) dX12_note_55 (by decide) ?_
          refine mm_iload_n dX12_note_56 rfl 2 rfl ?_
          refine mm_iload_n dX12_note_57 rfl 3 rfl ?_
          refine mm_iload dX12_note_58 4 rfl ?_
          refine mn_top2 (w := _) (u := .int (Int32.ofInt p.toInt)) (congrArg Value.int (i32_pi hp).1) ?_
          refine rm_callV (As := [.int (nI (n)), .int (nI (1)), .int (nI (ki)), .int (Int32.ofInt p.toInt), .int (nI (Bool.toNat (co)))]) (rest := []) (d2 := 1) dX12_note_60 ha zc_put zc_put_s rfl rfl rfl (Nat.le_of_ble_eq_true rfl) (Nat.le_of_ble_eq_true rfl) (by decide) (tM_put (so := 1) (ki := ki) (pi := p.toInt) (co := co) ha hW hI hn hroom (by decide) hki (i32_pi hp).2) (fun r h1 hq => ?_)
          obtain ⟨rfl, F1, A1, ha, hf', hI1⟩ := hq
          have hf := hf.tr hf'
          exact mm_iret dX12_note_63 rfl (⟨rfl, F1, A1, ha, hf, hI1⟩)
        · omega
      · cases c31
set_option maxRecDepth 100000 in
set_option maxHeartbeats 4000000 in
theorem tM_noteF {l : Launch} {D : va_G} {aa : Nat → ClassId} {b0 : Nat} {h : mm_H} {o : Nat} {F : Nat → Int32} {G : Nat → Int64} {A : Nat → Nat → Int32} {B : Nat → Nat → Int64} {s : aS} {n : Nat} {ki : Nat} {p : Int32} {co : Bool} (ha : rm_at o F G A B h) (hW : WF s) (hI : RI s F A B) (hn : n < aNv s) (hki : ki < 7) (hp : (-40) ≤ p ∧ p ≤ nI 40) (hfull : aSz s n = 24) : mm_V (zz_K l D aa b0) 3 yX12_note cX12_note 5 (some .int) 0 [(0, .ref (o)), (1, .int (nI (n))), (2, .int (nI (ki))), (3, .int (p)), (4, .int (nI (Bool.toNat (co))))] [] h 0 0 (fun r h' => r = some (.int (-3)) ∧ ∃ (F' : Nat → Int32) (A' : Nat → Nat → Int32), rm_at o F' G A' B h' ∧ rm_fr o h h' ∧ RI (s) F' A' B) := by
  have hf : rm_fr o h h := rm_fr.rf
  have hn6 : n < 6 := by have := hW.1.1; omega
  have hvok := hW.2.1 n hn6
  have hsz24 : aSz s n ≤ 24 := hvok.1.2
  obtain ⟨⟨v1, w1⟩, ⟨v2, w2⟩, ⟨v3, w3⟩, ⟨v4, w4⟩, v5, w5⟩ := hI.1.2 n hn6
  refine mm_aload_n dX12_note_0 rfl 0 rfl ?_
  refine mm_iload_n dX12_note_1 rfl 1 rfl ?_
  refine rm_callVr (As := [.int (nI (n))]) (rest := []) (d2 := 1) dX12_note_2 ha zc_isVoice zc_isVoice_s rfl rfl rfl (Nat.le_of_ble_eq_true rfl) (Nat.le_of_ble_eq_true rfl) (by decide) (tM_isVoice ha hW hI (nI_inb hn (by have := hW.1.1; omega))) ?_
  refine mn_ifB_eq (tgt := 34) dX12_note_5 (by decide) (fun c5 => ?_) (fun c5 => ?_)
  · cases c5
  · refine mm_iload_n dX12_note_8 rfl 2 rfl ?_
    refine mm_i2l dX12_note_9 ?_
    refine mm_lconst (v := lN 0) dX12_note_10 (by decide) ?_
    refine mm_ldc2 (v := (6)) dX12_note_11 zk_133 ?_
    refine mn_top (u := .long (lN (6))) (congrArg Value.long (by decide)) ?_
    refine rm_callSr (As := [.long ((nI (ki)).toInt64), .long (lN (0)), .long (lN (6))]) (rest := []) (d2 := 0) dX12_note_14 zc_isIn rfl rfl (Nat.le_of_ble_eq_true rfl) (Nat.le_of_ble_eq_true rfl) (by decide) (tm_isIn _ _ _) ?_
    refine mn_top (u := .int (nI (Bool.toNat (true)))) (congrArg Value.int (in_t (a := 0) (b := 6) (by decide) (by decide) (by omega) (by omega) ((nI_inb hki (by decide)).imp id (fun z => by omega)))) ?_
    refine mn_ifB_eq (tgt := 34) dX12_note_17 (by decide) (fun c17 => ?_) (fun c17 => ?_)
    · cases c17
    · refine mm_iload_n dX12_note_20 rfl 3 rfl ?_
      refine mm_i2l dX12_note_21 ?_
      refine mm_ldc2 (v := (-40)) dX12_note_22 zk_135 ?_
      refine mm_ldc2 (v := (40)) dX12_note_25 zk_137 ?_
      refine mn_top (u := .long (lN (40))) (congrArg Value.long (by decide)) ?_
      refine rm_callSr (As := [.long ((p).toInt64), .long ((-40)), .long (lN (40))]) (rest := []) (d2 := 0) dX12_note_28 zc_isIn rfl rfl (Nat.le_of_ble_eq_true rfl) (Nat.le_of_ble_eq_true rfl) (by decide) (tm_isIn _ _ _) ?_
      refine mn_top (u := .int (nI (Bool.toNat (true)))) (congrArg Value.int (in_t (a := -40) (b := 40) (by decide) (by decide) (by omega) (by omega) ((i32_pi hp).2))) ?_
      refine mn_ifB_ne (tgt := 37) dX12_note_31 (by decide) (fun c31 => ?_) (fun c31 => ?_)
      · refine mm_aload_n dX12_note_37 rfl 0 rfl ?_
        refine rm_getA 2 dX12_note_38 ha zf_sizeOf (by decide) rfl ?_
        refine mm_iload_n dX12_note_41 rfl 1 rfl ?_
        refine rm_iald (k := 2) dX12_note_42 ha rfl rfl rfl (show n < 6 from (by omega)) ?_
        refine mn_top (u := .int (nI (aSz s n))) (congrArg Value.int (v2)) ?_
        refine mm_bipush (v := nI 24) dX12_note_43 (by decide) ?_
        refine mn_icmp_ne (tgt := 53) dX12_note_45 (by decide) (by omega) (by omega) (fun c45 => ?_) (fun c45 => ?_)
        · omega
        · refine mm_bipush (v := (-3)) dX12_note_48 (by decide) ?_
          refine mm_goto (tgt := 63) dX12_note_50 (by decide) ?_
          exact mm_iret dX12_note_63 rfl (⟨rfl, F, A, ha, hf, hI⟩)
      · cases c31
set_option maxRecDepth 100000 in
set_option maxHeartbeats 4000000 in
theorem tM_noteK {l : Launch} {D : va_G} {aa : Nat → ClassId} {b0 : Nat} {h : mm_H} {o : Nat} {F : Nat → Int32} {G : Nat → Int64} {A : Nat → Nat → Int32} {B : Nat → Nat → Int64} {s : aS} {n : Nat} {k p : Int32} {co : Bool} (ha : rm_at o F G A B h) (hW : WF s) (hI : RI s F A B) (hn : n < aNv s) (hb : ¬ ((0 : Int) ≤ k.toInt ∧ k.toInt < 7)) : mm_V (zz_K l D aa b0) 3 yX12_note cX12_note 5 (some .int) 0 [(0, .ref (o)), (1, .int (nI (n))), (2, .int (k)), (3, .int (p)), (4, .int (nI (Bool.toNat (co))))] [] h 0 0 (fun r h' => h' = h ∧ r = some (.int (-2))) := by
  have hf : rm_fr o h h := rm_fr.rf
  have hn6 : n < 6 := by have := hW.1.1; omega
  have hvok := hW.2.1 n hn6
  have hsz24 : aSz s n ≤ 24 := hvok.1.2
  obtain ⟨⟨v1, w1⟩, ⟨v2, w2⟩, ⟨v3, w3⟩, ⟨v4, w4⟩, v5, w5⟩ := hI.1.2 n hn6
  refine mm_aload_n dX12_note_0 rfl 0 rfl ?_
  refine mm_iload_n dX12_note_1 rfl 1 rfl ?_
  refine rm_callVr (As := [.int (nI (n))]) (rest := []) (d2 := 1) dX12_note_2 ha zc_isVoice zc_isVoice_s rfl rfl rfl (Nat.le_of_ble_eq_true rfl) (Nat.le_of_ble_eq_true rfl) (by decide) (tM_isVoice ha hW hI (nI_inb hn (by have := hW.1.1; omega))) ?_
  refine mn_ifB_eq (tgt := 34) dX12_note_5 (by decide) (fun c5 => ?_) (fun c5 => ?_)
  · cases c5
  · refine mm_iload_n dX12_note_8 rfl 2 rfl ?_
    refine mm_i2l dX12_note_9 ?_
    refine mm_lconst (v := lN 0) dX12_note_10 (by decide) ?_
    refine mm_ldc2 (v := (6)) dX12_note_11 zk_133 ?_
    refine mn_top (u := .long (lN (6))) (congrArg Value.long (by decide)) ?_
    refine rm_callSr (As := [.long ((k).toInt64), .long (lN (0)), .long (lN (6))]) (rest := []) (d2 := 0) dX12_note_14 zc_isIn rfl rfl (Nat.le_of_ble_eq_true rfl) (Nat.le_of_ble_eq_true rfl) (by decide) (tm_isIn _ _ _) ?_
    refine mn_top (u := .int (nI (Bool.toNat (false)))) (congrArg Value.int (in_f (a := 0) (b := 6) (by decide) (by decide) (by omega) (by omega) (fun q => hb ⟨q.1, by omega⟩))) ?_
    refine mn_ifB_eq (tgt := 34) dX12_note_17 (by decide) (fun c17 => ?_) (fun c17 => ?_)
    · refine mm_bipush (v := (-2)) dX12_note_34 (by decide) ?_
      exact mm_iret dX12_note_36 rfl (⟨rfl, rfl⟩)
    · cases c17
set_option maxRecDepth 100000 in
set_option maxHeartbeats 4000000 in
theorem tM_noteP {l : Launch} {D : va_G} {aa : Nat → ClassId} {b0 : Nat} {h : mm_H} {o : Nat} {F : Nat → Int32} {G : Nat → Int64} {A : Nat → Nat → Int32} {B : Nat → Nat → Int64} {s : aS} {n : Nat} {ki : Nat} {p : Int32} {co : Bool} (ha : rm_at o F G A B h) (hW : WF s) (hI : RI s F A B) (hn : n < aNv s) (hki : ki < 7) (hb : ¬ ((-40 : Int) ≤ p.toInt ∧ p.toInt ≤ 40)) : mm_V (zz_K l D aa b0) 3 yX12_note cX12_note 5 (some .int) 0 [(0, .ref (o)), (1, .int (nI (n))), (2, .int (nI (ki))), (3, .int (p)), (4, .int (nI (Bool.toNat (co))))] [] h 0 0 (fun r h' => h' = h ∧ r = some (.int (-2))) := by
  have hf : rm_fr o h h := rm_fr.rf
  have hn6 : n < 6 := by have := hW.1.1; omega
  have hvok := hW.2.1 n hn6
  have hsz24 : aSz s n ≤ 24 := hvok.1.2
  obtain ⟨⟨v1, w1⟩, ⟨v2, w2⟩, ⟨v3, w3⟩, ⟨v4, w4⟩, v5, w5⟩ := hI.1.2 n hn6
  refine mm_aload_n dX12_note_0 rfl 0 rfl ?_
  refine mm_iload_n dX12_note_1 rfl 1 rfl ?_
  refine rm_callVr (As := [.int (nI (n))]) (rest := []) (d2 := 1) dX12_note_2 ha zc_isVoice zc_isVoice_s rfl rfl rfl (Nat.le_of_ble_eq_true rfl) (Nat.le_of_ble_eq_true rfl) (by decide) (tM_isVoice ha hW hI (nI_inb hn (by have := hW.1.1; omega))) ?_
  refine mn_ifB_eq (tgt := 34) dX12_note_5 (by decide) (fun c5 => ?_) (fun c5 => ?_)
  · cases c5
  · refine mm_iload_n dX12_note_8 rfl 2 rfl ?_
    refine mm_i2l dX12_note_9 ?_
    refine mm_lconst (v := lN 0) dX12_note_10 (by decide) ?_
    refine mm_ldc2 (v := (6)) dX12_note_11 zk_133 ?_
    refine mn_top (u := .long (lN (6))) (congrArg Value.long (by decide)) ?_
    refine rm_callSr (As := [.long ((nI (ki)).toInt64), .long (lN (0)), .long (lN (6))]) (rest := []) (d2 := 0) dX12_note_14 zc_isIn rfl rfl (Nat.le_of_ble_eq_true rfl) (Nat.le_of_ble_eq_true rfl) (by decide) (tm_isIn _ _ _) ?_
    refine mn_top (u := .int (nI (Bool.toNat (true)))) (congrArg Value.int (in_t (a := 0) (b := 6) (by decide) (by decide) (by omega) (by omega) ((nI_inb hki (by decide)).imp id (fun z => by omega)))) ?_
    refine mn_ifB_eq (tgt := 34) dX12_note_17 (by decide) (fun c17 => ?_) (fun c17 => ?_)
    · cases c17
    · refine mm_iload_n dX12_note_20 rfl 3 rfl ?_
      refine mm_i2l dX12_note_21 ?_
      refine mm_ldc2 (v := (-40)) dX12_note_22 zk_135 ?_
      refine mm_ldc2 (v := (40)) dX12_note_25 zk_137 ?_
      refine mn_top (u := .long (lN (40))) (congrArg Value.long (by decide)) ?_
      refine rm_callSr (As := [.long ((p).toInt64), .long ((-40)), .long (lN (40))]) (rest := []) (d2 := 0) dX12_note_28 zc_isIn rfl rfl (Nat.le_of_ble_eq_true rfl) (Nat.le_of_ble_eq_true rfl) (by decide) (tm_isIn _ _ _) ?_
      refine mn_top (u := .int (nI (Bool.toNat (false)))) (congrArg Value.int (in_f (a := -40) (b := 40) (by decide) (by decide) (by omega) (by omega) (hb))) ?_
      refine mn_ifB_ne (tgt := 37) dX12_note_31 (by decide) (fun c31 => ?_) (fun c31 => ?_)
      · cases c31
      · refine mm_bipush (v := (-2)) dX12_note_34 (by decide) ?_
        exact mm_iret dX12_note_36 rfl (⟨rfl, rfl⟩)
set_option maxRecDepth 100000 in
set_option maxHeartbeats 4000000 in
theorem tM_rest {l : Launch} {D : va_G} {aa : Nat → ClassId} {b0 : Nat} {h : mm_H} {o : Nat} {F : Nat → Int32} {G : Nat → Int64} {A : Nat → Nat → Int32} {B : Nat → Nat → Int64} {s : aS} {n : Nat} {ki : Nat} (ha : rm_at o F G A B h) (hW : WF s) (hI : RI s F A B) (hn : n < aNv s) (hki : ki < 7) (hroom : aSz s n < 24) : mm_V (zz_K l D aa b0) 3 yX12_rest cX12_rest 3 (some .int) 0 [(0, .ref (o)), (1, .int (nI (n))), (2, .int (nI (ki)))] [] h 0 0 (fun r h' => r = some (.int (nI (aSz s n))) ∧ ∃ (F' : Nat → Int32) (A' : Nat → Nat → Int32), rm_at o F' G A' B h' ∧ rm_fr o h h' ∧ RI (aPut s n 2 ki 0 false) F' A' B) := by
  have hf : rm_fr o h h := rm_fr.rf
  have hn6 : n < 6 := by have := hW.1.1; omega
  have hvok := hW.2.1 n hn6
  have hsz24 : aSz s n ≤ 24 := hvok.1.2
  obtain ⟨⟨v1, w1⟩, ⟨v2, w2⟩, ⟨v3, w3⟩, ⟨v4, w4⟩, v5, w5⟩ := hI.1.2 n hn6
  refine mm_aload_n dX12_rest_0 rfl 0 rfl ?_
  refine mm_iload_n dX12_rest_1 rfl 1 rfl ?_
  refine rm_callVr (As := [.int (nI (n))]) (rest := []) (d2 := 1) dX12_rest_2 ha zc_isVoice zc_isVoice_s rfl rfl rfl (Nat.le_of_ble_eq_true rfl) (Nat.le_of_ble_eq_true rfl) (by decide) (tM_isVoice ha hW hI (nI_inb hn (by have := hW.1.1; omega))) ?_
  refine mn_ifB_eq (tgt := 20) dX12_rest_5 (by decide) (fun c5 => ?_) (fun c5 => ?_)
  · cases c5
  · refine mm_iload_n dX12_rest_8 rfl 2 rfl ?_
    refine mm_i2l dX12_rest_9 ?_
    refine mm_lconst (v := lN 0) dX12_rest_10 (by decide) ?_
    refine mm_ldc2 (v := (6)) dX12_rest_11 zk_133 ?_
    refine mn_top (u := .long (lN (6))) (congrArg Value.long (by decide)) ?_
    refine rm_callSr (As := [.long ((nI (ki)).toInt64), .long (lN (0)), .long (lN (6))]) (rest := []) (d2 := 0) dX12_rest_14 zc_isIn rfl rfl (Nat.le_of_ble_eq_true rfl) (Nat.le_of_ble_eq_true rfl) (by decide) (tm_isIn _ _ _) ?_
    refine mn_top (u := .int (nI (Bool.toNat (true)))) (congrArg Value.int (in_t (a := 0) (b := 6) (by decide) (by decide) (by omega) (by omega) ((nI_inb hki (by decide)).imp id (fun z => by omega)))) ?_
    refine mn_ifB_ne (tgt := 23) dX12_rest_17 (by decide) (fun c17 => ?_) (fun c17 => ?_)
    · refine mm_aload_n dX12_rest_23 rfl 0 rfl ?_
      refine rm_getA 2 dX12_rest_24 ha zf_sizeOf (by decide) rfl ?_
      refine mm_iload_n dX12_rest_27 rfl 1 rfl ?_
      refine rm_iald (k := 2) dX12_rest_28 ha rfl rfl rfl (show n < 6 from (by omega)) ?_
      refine mn_top (u := .int (nI (aSz s n))) (congrArg Value.int (v2)) ?_
      refine mm_bipush (v := nI 24) dX12_rest_29 (by decide) ?_
      refine mn_icmp_ne (tgt := 39) dX12_rest_31 (by decide) (by omega) (by omega) (fun c31 => ?_) (fun c31 => ?_)
      · refine mm_aload_n dX12_rest_39 rfl 0 rfl ?_
        refine mm_iload_n dX12_rest_40 rfl 1 rfl ?_
        refine mm_iconst (v := nI 2) dX12_rest_41 (by decide) ?_
        refine mm_iload_n dX12_rest_42 rfl 2 rfl ?_
        refine mm_iconst (v := nI 0) dX12_rest_43 (by decide) ?_
        refine mm_iconst (v := nI 0) dX12_rest_44 (by decide) ?_
        refine mn_top (u := .int (nI (Bool.toNat false))) (congrArg Value.int (rfl)) ?_
        refine mn_top2 (w := _) (u := .int (Int32.ofInt 0)) rfl ?_
        refine rm_callV (As := [.int (nI (n)), .int (nI (2)), .int (nI (ki)), .int (Int32.ofInt 0), .int (nI (Bool.toNat (false)))]) (rest := []) (d2 := 1) dX12_rest_45 ha zc_put zc_put_s rfl rfl rfl (Nat.le_of_ble_eq_true rfl) (Nat.le_of_ble_eq_true rfl) (by decide) (tM_put (so := 2) (ki := ki) (pi := 0) (co := false) ha hW hI hn hroom (by decide) hki ⟨by decide, by decide⟩) (fun r h1 hq => ?_)
        obtain ⟨rfl, F1, A1, ha, hf', hI1⟩ := hq
        have hf := hf.tr hf'
        exact mm_iret dX12_rest_48 rfl (⟨rfl, F1, A1, ha, hf, hI1⟩)
      · omega
    · cases c17
set_option maxRecDepth 100000 in
set_option maxHeartbeats 4000000 in
theorem tM_restF {l : Launch} {D : va_G} {aa : Nat → ClassId} {b0 : Nat} {h : mm_H} {o : Nat} {F : Nat → Int32} {G : Nat → Int64} {A : Nat → Nat → Int32} {B : Nat → Nat → Int64} {s : aS} {n : Nat} {ki : Nat} (ha : rm_at o F G A B h) (hW : WF s) (hI : RI s F A B) (hn : n < aNv s) (hki : ki < 7) (hfull : aSz s n = 24) : mm_V (zz_K l D aa b0) 3 yX12_rest cX12_rest 3 (some .int) 0 [(0, .ref (o)), (1, .int (nI (n))), (2, .int (nI (ki)))] [] h 0 0 (fun r h' => r = some (.int (-3)) ∧ ∃ (F' : Nat → Int32) (A' : Nat → Nat → Int32), rm_at o F' G A' B h' ∧ rm_fr o h h' ∧ RI (s) F' A' B) := by
  have hf : rm_fr o h h := rm_fr.rf
  have hn6 : n < 6 := by have := hW.1.1; omega
  have hvok := hW.2.1 n hn6
  have hsz24 : aSz s n ≤ 24 := hvok.1.2
  obtain ⟨⟨v1, w1⟩, ⟨v2, w2⟩, ⟨v3, w3⟩, ⟨v4, w4⟩, v5, w5⟩ := hI.1.2 n hn6
  refine mm_aload_n dX12_rest_0 rfl 0 rfl ?_
  refine mm_iload_n dX12_rest_1 rfl 1 rfl ?_
  refine rm_callVr (As := [.int (nI (n))]) (rest := []) (d2 := 1) dX12_rest_2 ha zc_isVoice zc_isVoice_s rfl rfl rfl (Nat.le_of_ble_eq_true rfl) (Nat.le_of_ble_eq_true rfl) (by decide) (tM_isVoice ha hW hI (nI_inb hn (by have := hW.1.1; omega))) ?_
  refine mn_ifB_eq (tgt := 20) dX12_rest_5 (by decide) (fun c5 => ?_) (fun c5 => ?_)
  · cases c5
  · refine mm_iload_n dX12_rest_8 rfl 2 rfl ?_
    refine mm_i2l dX12_rest_9 ?_
    refine mm_lconst (v := lN 0) dX12_rest_10 (by decide) ?_
    refine mm_ldc2 (v := (6)) dX12_rest_11 zk_133 ?_
    refine mn_top (u := .long (lN (6))) (congrArg Value.long (by decide)) ?_
    refine rm_callSr (As := [.long ((nI (ki)).toInt64), .long (lN (0)), .long (lN (6))]) (rest := []) (d2 := 0) dX12_rest_14 zc_isIn rfl rfl (Nat.le_of_ble_eq_true rfl) (Nat.le_of_ble_eq_true rfl) (by decide) (tm_isIn _ _ _) ?_
    refine mn_top (u := .int (nI (Bool.toNat (true)))) (congrArg Value.int (in_t (a := 0) (b := 6) (by decide) (by decide) (by omega) (by omega) ((nI_inb hki (by decide)).imp id (fun z => by omega)))) ?_
    refine mn_ifB_ne (tgt := 23) dX12_rest_17 (by decide) (fun c17 => ?_) (fun c17 => ?_)
    · refine mm_aload_n dX12_rest_23 rfl 0 rfl ?_
      refine rm_getA 2 dX12_rest_24 ha zf_sizeOf (by decide) rfl ?_
      refine mm_iload_n dX12_rest_27 rfl 1 rfl ?_
      refine rm_iald (k := 2) dX12_rest_28 ha rfl rfl rfl (show n < 6 from (by omega)) ?_
      refine mn_top (u := .int (nI (aSz s n))) (congrArg Value.int (v2)) ?_
      refine mm_bipush (v := nI 24) dX12_rest_29 (by decide) ?_
      refine mn_icmp_ne (tgt := 39) dX12_rest_31 (by decide) (by omega) (by omega) (fun c31 => ?_) (fun c31 => ?_)
      · omega
      · refine mm_bipush (v := (-3)) dX12_rest_34 (by decide) ?_
        refine mm_goto (tgt := 48) dX12_rest_36 (by decide) ?_
        exact mm_iret dX12_rest_48 rfl (⟨rfl, F, A, ha, hf, hI⟩)
    · cases c17
set_option maxRecDepth 100000 in
set_option maxHeartbeats 4000000 in
theorem tM_restK {l : Launch} {D : va_G} {aa : Nat → ClassId} {b0 : Nat} {h : mm_H} {o : Nat} {F : Nat → Int32} {G : Nat → Int64} {A : Nat → Nat → Int32} {B : Nat → Nat → Int64} {s : aS} {n : Nat} {k : Int32} (ha : rm_at o F G A B h) (hW : WF s) (hI : RI s F A B) (hn : n < aNv s) (hb : ¬ ((0 : Int) ≤ k.toInt ∧ k.toInt < 7)) : mm_V (zz_K l D aa b0) 3 yX12_rest cX12_rest 3 (some .int) 0 [(0, .ref (o)), (1, .int (nI (n))), (2, .int (k))] [] h 0 0 (fun r h' => h' = h ∧ r = some (.int (-2))) := by
  have hf : rm_fr o h h := rm_fr.rf
  have hn6 : n < 6 := by have := hW.1.1; omega
  have hvok := hW.2.1 n hn6
  have hsz24 : aSz s n ≤ 24 := hvok.1.2
  obtain ⟨⟨v1, w1⟩, ⟨v2, w2⟩, ⟨v3, w3⟩, ⟨v4, w4⟩, v5, w5⟩ := hI.1.2 n hn6
  refine mm_aload_n dX12_rest_0 rfl 0 rfl ?_
  refine mm_iload_n dX12_rest_1 rfl 1 rfl ?_
  refine rm_callVr (As := [.int (nI (n))]) (rest := []) (d2 := 1) dX12_rest_2 ha zc_isVoice zc_isVoice_s rfl rfl rfl (Nat.le_of_ble_eq_true rfl) (Nat.le_of_ble_eq_true rfl) (by decide) (tM_isVoice ha hW hI (nI_inb hn (by have := hW.1.1; omega))) ?_
  refine mn_ifB_eq (tgt := 20) dX12_rest_5 (by decide) (fun c5 => ?_) (fun c5 => ?_)
  · cases c5
  · refine mm_iload_n dX12_rest_8 rfl 2 rfl ?_
    refine mm_i2l dX12_rest_9 ?_
    refine mm_lconst (v := lN 0) dX12_rest_10 (by decide) ?_
    refine mm_ldc2 (v := (6)) dX12_rest_11 zk_133 ?_
    refine mn_top (u := .long (lN (6))) (congrArg Value.long (by decide)) ?_
    refine rm_callSr (As := [.long ((k).toInt64), .long (lN (0)), .long (lN (6))]) (rest := []) (d2 := 0) dX12_rest_14 zc_isIn rfl rfl (Nat.le_of_ble_eq_true rfl) (Nat.le_of_ble_eq_true rfl) (by decide) (tm_isIn _ _ _) ?_
    refine mn_top (u := .int (nI (Bool.toNat (false)))) (congrArg Value.int (in_f (a := 0) (b := 6) (by decide) (by decide) (by omega) (by omega) (fun q => hb ⟨q.1, by omega⟩))) ?_
    refine mn_ifB_ne (tgt := 23) dX12_rest_17 (by decide) (fun c17 => ?_) (fun c17 => ?_)
    · cases c17
    · refine mm_bipush (v := (-2)) dX12_rest_20 (by decide) ?_
      exact mm_iret dX12_rest_22 rfl (⟨rfl, rfl⟩)
set_option maxRecDepth 100000 in
set_option maxHeartbeats 4000000 in
theorem tM_dotE {l : Launch} {D : va_G} {aa : Nat → ClassId} {b0 : Nat} {h : mm_H} {o : Nat} {F : Nat → Int32} {G : Nat → Int64} {A : Nat → Nat → Int32} {B : Nat → Nat → Int64} {s : aS} {n : Nat} (ha : rm_at o F G A B h) (hW : WF s) (hI : RI s F A B) (hn : n < aNv s) (h0 : aSz s n = 0) : mm_V (zz_K l D aa b0) 3 yX12_dot cX12_dot 2 (some .int) 0 [(0, .ref (o)), (1, .int (nI (n)))] [] h 0 0 (fun r h' => h' = h ∧ r = some (.int (-2))) := by
  have hf : rm_fr o h h := rm_fr.rf
  have hn6 : n < 6 := by have := hW.1.1; omega
  have hvok := hW.2.1 n hn6
  have hsz24 : aSz s n ≤ 24 := hvok.1.2
  obtain ⟨⟨v1, w1⟩, ⟨v2, w2⟩, ⟨v3, w3⟩, ⟨v4, w4⟩, v5, w5⟩ := hI.1.2 n hn6
  refine mm_aload_n dX12_dot_0 rfl 0 rfl ?_
  refine mm_iload_n dX12_dot_1 rfl 1 rfl ?_
  refine rm_callVr (As := [.int (nI (n))]) (rest := []) (d2 := 1) dX12_dot_2 ha zc_isVoice zc_isVoice_s rfl rfl rfl (Nat.le_of_ble_eq_true rfl) (Nat.le_of_ble_eq_true rfl) (by decide) (tM_isVoice ha hW hI (nI_inb hn (by have := hW.1.1; omega))) ?_
  refine mn_ifB_eq (tgt := 39) dX12_dot_5 (by decide) (fun c5 => ?_) (fun c5 => ?_)
  · cases c5
  · refine mm_aload_n dX12_dot_8 rfl 0 rfl ?_
    refine rm_getA 2 dX12_dot_9 ha zf_sizeOf (by decide) rfl ?_
    refine mm_iload_n dX12_dot_12 rfl 1 rfl ?_
    refine rm_iald (k := 2) dX12_dot_13 ha rfl rfl rfl (show n < 6 from (by omega)) ?_
    refine mn_top (u := .int (nI (aSz s n))) (congrArg Value.int (v2)) ?_
    refine mn_if_eq (tgt := 39) dX12_dot_14 (by decide) (by omega) (fun c14 => ?_) (fun c14 => ?_)
    · refine mm_bipush (v := (-2)) dX12_dot_39 (by decide) ?_
      exact mm_iret dX12_dot_41 rfl (⟨rfl, rfl⟩)
    · omega
set_option maxRecDepth 100000 in
set_option maxHeartbeats 4000000 in
theorem tM_dotD {l : Launch} {D : va_G} {aa : Nat → ClassId} {b0 : Nat} {h : mm_H} {o : Nat} {F : Nat → Int32} {G : Nat → Int64} {A : Nat → Nat → Int32} {B : Nat → Nat → Int64} {s : aS} {n : Nat} (ha : rm_at o F G A B h) (hW : WF s) (hI : RI s F A B) (hn : n < aNv s) (h0 : aSz s n ≠ 0) (hl : aSo s (24 * n + (aSz s n - 1)) = 3) : mm_V (zz_K l D aa b0) 3 yX12_dot cX12_dot 2 (some .int) 0 [(0, .ref (o)), (1, .int (nI (n)))] [] h 0 0 (fun r h' => h' = h ∧ r = some (.int (-2))) := by
  have hf : rm_fr o h h := rm_fr.rf
  have hn6 : n < 6 := by have := hW.1.1; omega
  have hvok := hW.2.1 n hn6
  have hsz24 : aSz s n ≤ 24 := hvok.1.2
  obtain ⟨⟨v1, w1⟩, ⟨v2, w2⟩, ⟨v3, w3⟩, ⟨v4, w4⟩, v5, w5⟩ := hI.1.2 n hn6
  obtain ⟨⟨s1, u1⟩, -⟩ := hI.2.1 (24 * n + (aSz s n - 1)) (by omega)
  refine mm_aload_n dX12_dot_0 rfl 0 rfl ?_
  refine mm_iload_n dX12_dot_1 rfl 1 rfl ?_
  refine rm_callVr (As := [.int (nI (n))]) (rest := []) (d2 := 1) dX12_dot_2 ha zc_isVoice zc_isVoice_s rfl rfl rfl (Nat.le_of_ble_eq_true rfl) (Nat.le_of_ble_eq_true rfl) (by decide) (tM_isVoice ha hW hI (nI_inb hn (by have := hW.1.1; omega))) ?_
  refine mn_ifB_eq (tgt := 39) dX12_dot_5 (by decide) (fun c5 => ?_) (fun c5 => ?_)
  · cases c5
  · refine mm_aload_n dX12_dot_8 rfl 0 rfl ?_
    refine rm_getA 2 dX12_dot_9 ha zf_sizeOf (by decide) rfl ?_
    refine mm_iload_n dX12_dot_12 rfl 1 rfl ?_
    refine rm_iald (k := 2) dX12_dot_13 ha rfl rfl rfl (show n < 6 from (by omega)) ?_
    refine mn_top (u := .int (nI (aSz s n))) (congrArg Value.int (v2)) ?_
    refine mn_if_eq (tgt := 39) dX12_dot_14 (by decide) (by omega) (fun c14 => ?_) (fun c14 => ?_)
    · omega
    · refine mm_aload_n dX12_dot_17 rfl 0 rfl ?_
      refine rm_getA 6 dX12_dot_18 ha zf_sortOf (by decide) rfl ?_
      refine mm_bipush (v := nI 24) dX12_dot_21 (by decide) ?_
      refine mm_iload_n dX12_dot_23 rfl 1 rfl ?_
      refine mn_imul dX12_dot_24 ?_
      refine mm_aload_n dX12_dot_25 rfl 0 rfl ?_
      refine rm_getA 2 dX12_dot_26 ha zf_sizeOf (by decide) rfl ?_
      refine mm_iload_n dX12_dot_29 rfl 1 rfl ?_
      refine rm_iald (k := 2) dX12_dot_30 ha rfl rfl rfl (show n < 6 from (by omega)) ?_
      refine mn_top (u := .int (nI (aSz s n))) (congrArg Value.int (v2)) ?_
      refine mn_iadd dX12_dot_31 ?_
      refine mm_iconst (v := nI 1) dX12_dot_32 (by decide) ?_
      refine mn_isub dX12_dot_33 (by omega) ?_
      refine rm_iald (k := 6) dX12_dot_34 ha rfl rfl rfl (show (((24) * (n)) + (aSz s n)) - (1) < 144 from (by omega)) ?_
      refine mn_top (u := .int (nI (aSo s (24 * n + (aSz s n - 1))))) (congrArg Value.int (by rw [show 24 * n + aSz s n - 1 = 24 * n + (aSz s n - 1) from by omega]; exact s1)) ?_
      refine mm_iconst (v := nI 3) dX12_dot_35 (by decide) ?_
      refine mn_icmp_ne (tgt := 42) dX12_dot_36 (by decide) (by omega) (by omega) (fun c36 => ?_) (fun c36 => ?_)
      · omega
      · refine mm_bipush (v := (-2)) dX12_dot_39 (by decide) ?_
        exact mm_iret dX12_dot_41 rfl (⟨rfl, rfl⟩)
set_option maxRecDepth 100000 in
set_option maxHeartbeats 4000000 in
theorem tM_dot {l : Launch} {D : va_G} {aa : Nat → ClassId} {b0 : Nat} {h : mm_H} {o : Nat} {F : Nat → Int32} {G : Nat → Int64} {A : Nat → Nat → Int32} {B : Nat → Nat → Int64} {s : aS} {n : Nat} (ha : rm_at o F G A B h) (hW : WF s) (hI : RI s F A B) (hn : n < aNv s) (h0 : aSz s n ≠ 0) (hl : aSo s (24 * n + (aSz s n - 1)) ≠ 3) (hroom : aSz s n < 24) : mm_V (zz_K l D aa b0) 3 yX12_dot cX12_dot 2 (some .int) 0 [(0, .ref (o)), (1, .int (nI (n)))] [] h 0 0 (fun r h' => r = some (.int (nI (aSz s n))) ∧ ∃ (F' : Nat → Int32) (A' : Nat → Nat → Int32), rm_at o F' G A' B h' ∧ rm_fr o h h' ∧ RI (aPut s n 3 0 0 false) F' A' B) := by
  have hf : rm_fr o h h := rm_fr.rf
  have hn6 : n < 6 := by have := hW.1.1; omega
  have hvok := hW.2.1 n hn6
  have hsz24 : aSz s n ≤ 24 := hvok.1.2
  obtain ⟨⟨v1, w1⟩, ⟨v2, w2⟩, ⟨v3, w3⟩, ⟨v4, w4⟩, v5, w5⟩ := hI.1.2 n hn6
  obtain ⟨⟨s1, u1⟩, -⟩ := hI.2.1 (24 * n + (aSz s n - 1)) (by omega)
  refine mm_aload_n dX12_dot_0 rfl 0 rfl ?_
  refine mm_iload_n dX12_dot_1 rfl 1 rfl ?_
  refine rm_callVr (As := [.int (nI (n))]) (rest := []) (d2 := 1) dX12_dot_2 ha zc_isVoice zc_isVoice_s rfl rfl rfl (Nat.le_of_ble_eq_true rfl) (Nat.le_of_ble_eq_true rfl) (by decide) (tM_isVoice ha hW hI (nI_inb hn (by have := hW.1.1; omega))) ?_
  refine mn_ifB_eq (tgt := 39) dX12_dot_5 (by decide) (fun c5 => ?_) (fun c5 => ?_)
  · cases c5
  · refine mm_aload_n dX12_dot_8 rfl 0 rfl ?_
    refine rm_getA 2 dX12_dot_9 ha zf_sizeOf (by decide) rfl ?_
    refine mm_iload_n dX12_dot_12 rfl 1 rfl ?_
    refine rm_iald (k := 2) dX12_dot_13 ha rfl rfl rfl (show n < 6 from (by omega)) ?_
    refine mn_top (u := .int (nI (aSz s n))) (congrArg Value.int (v2)) ?_
    refine mn_if_eq (tgt := 39) dX12_dot_14 (by decide) (by omega) (fun c14 => ?_) (fun c14 => ?_)
    · omega
    · refine mm_aload_n dX12_dot_17 rfl 0 rfl ?_
      refine rm_getA 6 dX12_dot_18 ha zf_sortOf (by decide) rfl ?_
      refine mm_bipush (v := nI 24) dX12_dot_21 (by decide) ?_
      refine mm_iload_n dX12_dot_23 rfl 1 rfl ?_
      refine mn_imul dX12_dot_24 ?_
      refine mm_aload_n dX12_dot_25 rfl 0 rfl ?_
      refine rm_getA 2 dX12_dot_26 ha zf_sizeOf (by decide) rfl ?_
      refine mm_iload_n dX12_dot_29 rfl 1 rfl ?_
      refine rm_iald (k := 2) dX12_dot_30 ha rfl rfl rfl (show n < 6 from (by omega)) ?_
      refine mn_top (u := .int (nI (aSz s n))) (congrArg Value.int (v2)) ?_
      refine mn_iadd dX12_dot_31 ?_
      refine mm_iconst (v := nI 1) dX12_dot_32 (by decide) ?_
      refine mn_isub dX12_dot_33 (by omega) ?_
      refine rm_iald (k := 6) dX12_dot_34 ha rfl rfl rfl (show (((24) * (n)) + (aSz s n)) - (1) < 144 from (by omega)) ?_
      refine mn_top (u := .int (nI (aSo s (24 * n + (aSz s n - 1))))) (congrArg Value.int (by rw [show 24 * n + aSz s n - 1 = 24 * n + (aSz s n - 1) from by omega]; exact s1)) ?_
      refine mm_iconst (v := nI 3) dX12_dot_35 (by decide) ?_
      refine mn_icmp_ne (tgt := 42) dX12_dot_36 (by decide) (by omega) (by omega) (fun c36 => ?_) (fun c36 => ?_)
      · refine mm_aload_n dX12_dot_42 rfl 0 rfl ?_
        refine rm_getA 2 dX12_dot_43 ha zf_sizeOf (by decide) rfl ?_
        refine mm_iload_n dX12_dot_46 rfl 1 rfl ?_
        refine rm_iald (k := 2) dX12_dot_47 ha rfl rfl rfl (show n < 6 from (by omega)) ?_
        refine mn_top (u := .int (nI (aSz s n))) (congrArg Value.int (v2)) ?_
        refine mm_bipush (v := nI 24) dX12_dot_48 (by decide) ?_
        refine mn_icmp_ne (tgt := 58) dX12_dot_50 (by decide) (by omega) (by omega) (fun c50 => ?_) (fun c50 => ?_)
        · refine mm_aload_n dX12_dot_58 rfl 0 rfl ?_
          refine mm_iload_n dX12_dot_59 rfl 1 rfl ?_
          refine mm_iconst (v := nI 3) dX12_dot_60 (by decide) ?_
          refine mm_iconst (v := nI 0) dX12_dot_61 (by decide) ?_
          refine mm_iconst (v := nI 0) dX12_dot_62 (by decide) ?_
          refine mm_iconst (v := nI 0) dX12_dot_63 (by decide) ?_
          refine mn_top (u := .int (nI (Bool.toNat false))) (congrArg Value.int (rfl)) ?_
          refine mn_top2 (w := _) (u := .int (Int32.ofInt 0)) rfl ?_
          refine rm_callV (As := [.int (nI (n)), .int (nI (3)), .int (nI (0)), .int (Int32.ofInt 0), .int (nI (Bool.toNat (false)))]) (rest := []) (d2 := 1) dX12_dot_64 ha zc_put zc_put_s rfl rfl rfl (Nat.le_of_ble_eq_true rfl) (Nat.le_of_ble_eq_true rfl) (by decide) (tM_put (so := 3) (ki := 0) (pi := 0) (co := false) ha hW hI hn hroom (by decide) (by decide) ⟨by decide, by decide⟩) (fun r h1 hq => ?_)
          obtain ⟨rfl, F1, A1, ha, hf', hI1⟩ := hq
          have hf := hf.tr hf'
          exact mm_iret dX12_dot_67 rfl (⟨rfl, F1, A1, ha, hf, hI1⟩)
        · omega
      · omega
set_option maxRecDepth 100000 in
set_option maxHeartbeats 4000000 in
theorem tM_dotF {l : Launch} {D : va_G} {aa : Nat → ClassId} {b0 : Nat} {h : mm_H} {o : Nat} {F : Nat → Int32} {G : Nat → Int64} {A : Nat → Nat → Int32} {B : Nat → Nat → Int64} {s : aS} {n : Nat} (ha : rm_at o F G A B h) (hW : WF s) (hI : RI s F A B) (hn : n < aNv s) (h0 : aSz s n ≠ 0) (hl : aSo s (24 * n + (aSz s n - 1)) ≠ 3) (hfull : aSz s n = 24) : mm_V (zz_K l D aa b0) 3 yX12_dot cX12_dot 2 (some .int) 0 [(0, .ref (o)), (1, .int (nI (n)))] [] h 0 0 (fun r h' => r = some (.int (-3)) ∧ ∃ (F' : Nat → Int32) (A' : Nat → Nat → Int32), rm_at o F' G A' B h' ∧ rm_fr o h h' ∧ RI (s) F' A' B) := by
  have hf : rm_fr o h h := rm_fr.rf
  have hn6 : n < 6 := by have := hW.1.1; omega
  have hvok := hW.2.1 n hn6
  have hsz24 : aSz s n ≤ 24 := hvok.1.2
  obtain ⟨⟨v1, w1⟩, ⟨v2, w2⟩, ⟨v3, w3⟩, ⟨v4, w4⟩, v5, w5⟩ := hI.1.2 n hn6
  obtain ⟨⟨s1, u1⟩, -⟩ := hI.2.1 (24 * n + (aSz s n - 1)) (by omega)
  refine mm_aload_n dX12_dot_0 rfl 0 rfl ?_
  refine mm_iload_n dX12_dot_1 rfl 1 rfl ?_
  refine rm_callVr (As := [.int (nI (n))]) (rest := []) (d2 := 1) dX12_dot_2 ha zc_isVoice zc_isVoice_s rfl rfl rfl (Nat.le_of_ble_eq_true rfl) (Nat.le_of_ble_eq_true rfl) (by decide) (tM_isVoice ha hW hI (nI_inb hn (by have := hW.1.1; omega))) ?_
  refine mn_ifB_eq (tgt := 39) dX12_dot_5 (by decide) (fun c5 => ?_) (fun c5 => ?_)
  · cases c5
  · refine mm_aload_n dX12_dot_8 rfl 0 rfl ?_
    refine rm_getA 2 dX12_dot_9 ha zf_sizeOf (by decide) rfl ?_
    refine mm_iload_n dX12_dot_12 rfl 1 rfl ?_
    refine rm_iald (k := 2) dX12_dot_13 ha rfl rfl rfl (show n < 6 from (by omega)) ?_
    refine mn_top (u := .int (nI (aSz s n))) (congrArg Value.int (v2)) ?_
    refine mn_if_eq (tgt := 39) dX12_dot_14 (by decide) (by omega) (fun c14 => ?_) (fun c14 => ?_)
    · omega
    · refine mm_aload_n dX12_dot_17 rfl 0 rfl ?_
      refine rm_getA 6 dX12_dot_18 ha zf_sortOf (by decide) rfl ?_
      refine mm_bipush (v := nI 24) dX12_dot_21 (by decide) ?_
      refine mm_iload_n dX12_dot_23 rfl 1 rfl ?_
      refine mn_imul dX12_dot_24 ?_
      refine mm_aload_n dX12_dot_25 rfl 0 rfl ?_
      refine rm_getA 2 dX12_dot_26 ha zf_sizeOf (by decide) rfl ?_
      refine mm_iload_n dX12_dot_29 rfl 1 rfl ?_
      refine rm_iald (k := 2) dX12_dot_30 ha rfl rfl rfl (show n < 6 from (by omega)) ?_
      refine mn_top (u := .int (nI (aSz s n))) (congrArg Value.int (v2)) ?_
      refine mn_iadd dX12_dot_31 ?_
      refine mm_iconst (v := nI 1) dX12_dot_32 (by decide) ?_
      refine mn_isub dX12_dot_33 (by omega) ?_
      refine rm_iald (k := 6) dX12_dot_34 ha rfl rfl rfl (show (((24) * (n)) + (aSz s n)) - (1) < 144 from (by omega)) ?_
      refine mn_top (u := .int (nI (aSo s (24 * n + (aSz s n - 1))))) (congrArg Value.int (by rw [show 24 * n + aSz s n - 1 = 24 * n + (aSz s n - 1) from by omega]; exact s1)) ?_
      refine mm_iconst (v := nI 3) dX12_dot_35 (by decide) ?_
      refine mn_icmp_ne (tgt := 42) dX12_dot_36 (by decide) (by omega) (by omega) (fun c36 => ?_) (fun c36 => ?_)
      · refine mm_aload_n dX12_dot_42 rfl 0 rfl ?_
        refine rm_getA 2 dX12_dot_43 ha zf_sizeOf (by decide) rfl ?_
        refine mm_iload_n dX12_dot_46 rfl 1 rfl ?_
        refine rm_iald (k := 2) dX12_dot_47 ha rfl rfl rfl (show n < 6 from (by omega)) ?_
        refine mn_top (u := .int (nI (aSz s n))) (congrArg Value.int (v2)) ?_
        refine mm_bipush (v := nI 24) dX12_dot_48 (by decide) ?_
        refine mn_icmp_ne (tgt := 58) dX12_dot_50 (by decide) (by omega) (by omega) (fun c50 => ?_) (fun c50 => ?_)
        · omega
        · refine mm_bipush (v := (-3)) dX12_dot_53 (by decide) ?_
          refine mm_goto (tgt := 67) dX12_dot_55 (by decide) ?_
          exact mm_iret dX12_dot_67 rfl (⟨rfl, F, A, ha, hf, hI⟩)
      · omega
set_option maxRecDepth 100000 in
set_option maxHeartbeats 4000000 in
theorem tM_backE {l : Launch} {D : va_G} {aa : Nat → ClassId} {b0 : Nat} {h : mm_H} {o : Nat} {F : Nat → Int32} {G : Nat → Int64} {A : Nat → Nat → Int32} {B : Nat → Nat → Int64} {s : aS} {n : Nat} (ha : rm_at o F G A B h) (hW : WF s) (hI : RI s F A B) (hn : n < aNv s) (h0 : aSz s n = 0) : mm_V (zz_K l D aa b0) 3 yX12_back cX12_back 2 (some .int) 0 [(0, .ref (o)), (1, .int (nI (n)))] [] h 0 0 (fun r h' => h' = h ∧ r = some (.int (-1))) := by
  have hf : rm_fr o h h := rm_fr.rf
  have hn6 : n < 6 := by have := hW.1.1; omega
  have hvok := hW.2.1 n hn6
  have hsz24 : aSz s n ≤ 24 := hvok.1.2
  obtain ⟨⟨v1, w1⟩, ⟨v2, w2⟩, ⟨v3, w3⟩, ⟨v4, w4⟩, v5, w5⟩ := hI.1.2 n hn6
  refine mm_aload_n dX12_back_0 rfl 0 rfl ?_
  refine mm_iload_n dX12_back_1 rfl 1 rfl ?_
  refine rm_callVr (As := [.int (nI (n))]) (rest := []) (d2 := 1) dX12_back_2 ha zc_isVoice zc_isVoice_s rfl rfl rfl (Nat.le_of_ble_eq_true rfl) (Nat.le_of_ble_eq_true rfl) (by decide) (tM_isVoice ha hW hI (nI_inb hn (by have := hW.1.1; omega))) ?_
  refine mn_ifB_ne (tgt := 11) dX12_back_5 (by decide) (fun c5 => ?_) (fun c5 => ?_)
  · refine mm_aload_n dX12_back_11 rfl 0 rfl ?_
    refine rm_getA 2 dX12_back_12 ha zf_sizeOf (by decide) rfl ?_
    refine mm_iload_n dX12_back_15 rfl 1 rfl ?_
    refine rm_iald (k := 2) dX12_back_16 ha rfl rfl rfl (show n < 6 from (by omega)) ?_
    refine mn_top (u := .int (nI (aSz s n))) (congrArg Value.int (v2)) ?_
    refine mn_if_ne (tgt := 22) dX12_back_17 (by decide) (by omega) (fun c17 => ?_) (fun c17 => ?_)
    · exact absurd h0 c17
    · refine mm_iconst (v := (-1)) dX12_back_20 (by decide) ?_
      exact mm_iret dX12_back_21 rfl (⟨rfl, rfl⟩)
  · cases c5
set_option maxRecDepth 100000 in
set_option maxHeartbeats 4000000 in
theorem tM_back {l : Launch} {D : va_G} {aa : Nat → ClassId} {b0 : Nat} {h : mm_H} {o : Nat} {F : Nat → Int32} {G : Nat → Int64} {A : Nat → Nat → Int32} {B : Nat → Nat → Int64} {s : aS} {n : Nat} (ha : rm_at o F G A B h) (hW : WF s) (hI : RI s F A B) (hn : n < aNv s) (h0 : aSz s n ≠ 0) : mm_V (zz_K l D aa b0) 3 yX12_back cX12_back 2 (some .int) 0 [(0, .ref (o)), (1, .int (nI (n)))] [] h 0 0 (fun r h' => r = some (.int (nI (aSz s n - 1))) ∧ ∃ (F' : Nat → Int32) (A' : Nat → Nat → Int32), rm_at o F' G A' B h' ∧ rm_fr o h h' ∧ RI (aBack s n) F' A' B) := by
  have hf : rm_fr o h h := rm_fr.rf
  have hn6 : n < 6 := by have := hW.1.1; omega
  have hvok := hW.2.1 n hn6
  have hsz24 : aSz s n ≤ 24 := hvok.1.2
  obtain ⟨⟨v1, w1⟩, ⟨v2, w2⟩, ⟨v3, w3⟩, ⟨v4, w4⟩, v5, w5⟩ := hI.1.2 n hn6
  refine mm_aload_n dX12_back_0 rfl 0 rfl ?_
  refine mm_iload_n dX12_back_1 rfl 1 rfl ?_
  refine rm_callVr (As := [.int (nI (n))]) (rest := []) (d2 := 1) dX12_back_2 ha zc_isVoice zc_isVoice_s rfl rfl rfl (Nat.le_of_ble_eq_true rfl) (Nat.le_of_ble_eq_true rfl) (by decide) (tM_isVoice ha hW hI (nI_inb hn (by have := hW.1.1; omega))) ?_
  refine mn_ifB_ne (tgt := 11) dX12_back_5 (by decide) (fun c5 => ?_) (fun c5 => ?_)
  · refine mm_aload_n dX12_back_11 rfl 0 rfl ?_
    refine rm_getA 2 dX12_back_12 ha zf_sizeOf (by decide) rfl ?_
    refine mm_iload_n dX12_back_15 rfl 1 rfl ?_
    refine rm_iald (k := 2) dX12_back_16 ha rfl rfl rfl (show n < 6 from (by omega)) ?_
    refine mn_top (u := .int (nI (aSz s n))) (congrArg Value.int (v2)) ?_
    refine mn_if_ne (tgt := 22) dX12_back_17 (by decide) (by omega) (fun c17 => ?_) (fun c17 => ?_)
    · refine mm_aload_n dX12_back_22 rfl 0 rfl ?_
      refine rm_getA 2 dX12_back_23 ha zf_sizeOf (by decide) rfl ?_
      refine mm_iload_n dX12_back_26 rfl 1 rfl ?_
      refine mm_dup2 dX12_back_27 rfl rfl ?_
      refine rm_iald (k := 2) dX12_back_28 ha rfl rfl rfl (show n < 6 from (by omega)) ?_
      refine mn_top (u := .int (nI (aSz s n))) (congrArg Value.int (v2)) ?_
      refine mm_iconst (v := nI 1) dX12_back_29 (by decide) ?_
      refine mn_isub dX12_back_30 (by omega) ?_
      refine rm_iast (k := 2) dX12_back_31 ha hf rfl rfl rfl (show n < 6 from (by omega)) (fun h ha hf => ?_)
      refine mm_aload_n dX12_back_32 rfl 0 rfl ?_
      refine mm_iload_n dX12_back_33 rfl 1 rfl ?_
      obtain ⟨A1, hA1⟩ : ∃ A1, A1 = (rm_up A 2 (upd (A 2) n (nI (aSz s n - 1)))) := ⟨_, rfl⟩
      rw [← hA1] at ha
      refine rm_callV (As := [.int (nI (n))]) (rest := []) (d2 := 0) dX12_back_34 ha zc_change zc_change_s rfl rfl rfl (Nat.le_of_ble_eq_true rfl) (Nat.le_of_ble_eq_true rfl) (by decide) (tM_change ha hn6) (fun r h1 hq => ?_)
      obtain ⟨rfl, F2, ha, hf', h42, hF2⟩ := hq
      have hf := hf.tr hf'
      have gz : (rm_up A1 5 (upd (A1 5) n (nI 0))) 2 n = nI (aSz s n - 1) := by rw [rm_up_n (by decide), hA1, rm_up_s, pk_us]
      refine mm_aload_n dX12_back_37 rfl 0 rfl ?_
      refine rm_getA 2 dX12_back_38 ha zf_sizeOf (by decide) rfl ?_
      refine mm_iload_n dX12_back_41 rfl 1 rfl ?_
      refine rm_iald (k := 2) dX12_back_42 ha rfl rfl rfl (show n < 6 from (by omega)) ?_
      refine mn_top (u := .int (nI (aSz s n - 1))) (congrArg Value.int (gz)) ?_
      exact mm_iret dX12_back_43 rfl (⟨rfl, F2, _, ha, hf, RI_back hW hI hn (by rw [rm_up_n (by decide), hA1, rm_up_s]) (by rw [rm_up_s, hA1, rm_up_n (by decide)]) (fun j n1 n2 => by rw [rm_up_n n2, hA1, rm_up_n n1]) h42 hF2⟩)
    · exact absurd c17 h0
  · cases c5
theorem RI_voice {s : aS} {F : Nat → Int32} {A : Nat → Nat → Int32} {B : Nat → Nat → Int64} {g : Nat} (hW : WF s) (h : RI s F A B) (hn : aNv s < 6) (hg : g < 16) : RI (aVoice s g) (upd F 0 (nI (aNv s + 1))) (rm_up (rm_up (rm_up A 1 (upd (A 1) (aNv s) (nI g))) 3 (upd ((rm_up A 1 (upd (A 1) (aNv s) (nI g))) 3) (aNv s) (nI 1))) 4 (upd ((rm_up (rm_up A 1 (upd (A 1) (aNv s) (nI g))) 3 (upd ((rm_up A 1 (upd (A 1) (aNv s) (nI g))) 3) (aNv s) (nI 1))) 4) (aNv s) (nI 1))) B := by
  refine RI_vo h ⟨⟨pk_us, by show aNv s + 1 ≤ 6; omega⟩, fun u hu => ?_⟩ rfl (fun j hj => pk_un hj) (fun j hj => by rw [rm_up_n (by omega), rm_up_n (by omega), rm_up_n (by omega)]) (by show aNv s ≤ aNv s + 1; omega) (fun u hu => ⟨rfl, rm_up_n (by omega)⟩)
  obtain ⟨k1, k2, k3, k4, k5, k6⟩ := h.1.2 u hu
  rw [rm_up_n (show 1 ≠ 4 by decide), rm_up_n (show 1 ≠ 3 by decide), rm_up_s, rm_up_n (show 2 ≠ 4 by decide), rm_up_n (show 2 ≠ 3 by decide), rm_up_n (show 2 ≠ 1 by decide), rm_up_n (show 3 ≠ 4 by decide), rm_up_s, rm_up_n (show 3 ≠ 1 by decide), rm_up_s, rm_up_n (show 4 ≠ 3 by decide), rm_up_n (show 4 ≠ 1 by decide), rm_up_n (show 5 ≠ 4 by decide), rm_up_n (show 5 ≠ 3 by decide), rm_up_n (show 5 ≠ 1 by decide)]
  show (upd (A 1) (aNv s) (nI g) u = nI (rm_up (aSg s) (aNv s) g u) ∧ rm_up (aSg s) (aNv s) g u < 16) ∧ (A 2 u = nI (aSz s u) ∧ aSz s u ≤ 24) ∧ (upd (A 3) (aNv s) (nI 1) u = nI (rm_up (aUp s) (aNv s) 1 u) ∧ rm_up (aUp s) (aNv s) 1 u ≤ 1000) ∧ (upd (A 4) (aNv s) (nI 1) u = nI (rm_up (aDn s) (aNv s) 1 u) ∧ rm_up (aDn s) (aNv s) 1 u ≤ 1000) ∧ A 5 u = nI (aPk s u) ∧ aPk s u < 1001
  by_cases e : u = aNv s
  · rw [e, pk_us, pk_us, pk_us, rm_up_s, rm_up_s, rm_up_s]
    rw [e] at k2 k5 k6
    exact ⟨⟨rfl, hg⟩, k2, ⟨rfl, by decide⟩, ⟨rfl, by decide⟩, k5, k6⟩
  · rw [pk_un e, pk_un e, pk_un e, rm_up_n e, rm_up_n e, rm_up_n e]
    exact ⟨k1, k2, k3, k4, k5, k6⟩
set_option maxRecDepth 100000 in
set_option maxHeartbeats 4000000 in
theorem tM_voiceB {l : Launch} {D : va_G} {aa : Nat → ClassId} {b0 : Nat} {h : mm_H} {o : Nat} {F : Nat → Int32} {G : Nat → Int64} {A : Nat → Nat → Int32} {B : Nat → Nat → Int64} {s : aS} {g : Int32} (ha : rm_at o F G A B h) (hW : WF s) (hI : RI s F A B) (hg : g < 0 ∨ nI 16 ≤ g) : mm_V (zz_K l D aa b0) 3 yX12_voice cX12_voice 2 (some .int) 0 [(0, .ref (o)), (1, .int (g))] [] h 0 0 (fun r h' => h' = h ∧ r = some (.int (-2))) := by
  have hf : rm_fr o h h := rm_fr.rf
  refine mm_iload_n dX12_voice_0 rfl 1 rfl ?_
  refine mm_i2l dX12_voice_1 ?_
  refine mm_lconst (v := lN 0) dX12_voice_2 (by decide) ?_
  refine mm_ldc2 (v := (15)) dX12_voice_3 zk_123 ?_
  refine mn_top (u := .long (lN (15))) (congrArg Value.long (by decide)) ?_
  refine rm_callSr (As := [.long ((g).toInt64), .long (lN (0)), .long (lN (15))]) (rest := []) (d2 := 0) dX12_voice_6 zc_isIn rfl rfl (Nat.le_of_ble_eq_true rfl) (Nat.le_of_ble_eq_true rfl) (by decide) (tm_isIn _ _ _) ?_
  refine mn_top (u := .int (nI (Bool.toNat (false)))) (congrArg Value.int (in_f (a := 0) (b := 15) (by decide) (by decide) (by omega) (by omega) (fun q => by have := i32_out (by decide) hg; omega))) ?_
  refine mn_ifB_ne (tgt := 15) dX12_voice_9 (by decide) (fun c9 => ?_) (fun c9 => ?_)
  · cases c9
  · refine mm_bipush (v := (-2)) dX12_voice_12 (by decide) ?_
    exact mm_iret dX12_voice_14 rfl (⟨rfl, rfl⟩)
set_option maxRecDepth 100000 in
set_option maxHeartbeats 4000000 in
theorem tM_voiceF {l : Launch} {D : va_G} {aa : Nat → ClassId} {b0 : Nat} {h : mm_H} {o : Nat} {F : Nat → Int32} {G : Nat → Int64} {A : Nat → Nat → Int32} {B : Nat → Nat → Int64} {s : aS} {g : Nat} (ha : rm_at o F G A B h) (hW : WF s) (hI : RI s F A B) (hg : g < 16) (h6 : aNv s = 6) : mm_V (zz_K l D aa b0) 3 yX12_voice cX12_voice 2 (some .int) 0 [(0, .ref (o)), (1, .int (nI (g)))] [] h 0 0 (fun r h' => h' = h ∧ r = some (.int (-3))) := by
  have hf : rm_fr o h h := rm_fr.rf
  refine mm_iload_n dX12_voice_0 rfl 1 rfl ?_
  refine mm_i2l dX12_voice_1 ?_
  refine mm_lconst (v := lN 0) dX12_voice_2 (by decide) ?_
  refine mm_ldc2 (v := (15)) dX12_voice_3 zk_123 ?_
  refine mn_top (u := .long (lN (15))) (congrArg Value.long (by decide)) ?_
  refine rm_callSr (As := [.long ((nI (g)).toInt64), .long (lN (0)), .long (lN (15))]) (rest := []) (d2 := 0) dX12_voice_6 zc_isIn rfl rfl (Nat.le_of_ble_eq_true rfl) (Nat.le_of_ble_eq_true rfl) (by decide) (tm_isIn _ _ _) ?_
  refine mn_top (u := .int (nI (Bool.toNat (true)))) (congrArg Value.int (in_t (a := 0) (b := 15) (by decide) (by decide) (by omega) (by omega) ((nI_inb hg (by decide)).imp id (fun z => by omega)))) ?_
  refine mn_ifB_ne (tgt := 15) dX12_voice_9 (by decide) (fun c9 => ?_) (fun c9 => ?_)
  · refine mm_aload_n dX12_voice_15 rfl 0 rfl ?_
    refine rm_getI 0 dX12_voice_16 ha zf_voices (by decide) rfl rfl ?_
    refine mn_top (u := .int (nI (aNv s))) (congrArg Value.int ((hI.1.1.1))) ?_
    refine mm_bipush (v := nI 6) dX12_voice_19 (by decide) ?_
    refine mn_icmp_ne (tgt := 27) dX12_voice_21 (by decide) (by omega) (by omega) (fun c21 => ?_) (fun c21 => ?_)
    · omega
    · refine mm_bipush (v := (-3)) dX12_voice_24 (by decide) ?_
      exact mm_iret dX12_voice_26 rfl (⟨rfl, rfl⟩)
  · cases c9
set_option maxRecDepth 100000 in
set_option maxHeartbeats 4000000 in
theorem tM_voice {l : Launch} {D : va_G} {aa : Nat → ClassId} {b0 : Nat} {h : mm_H} {o : Nat} {F : Nat → Int32} {G : Nat → Int64} {A : Nat → Nat → Int32} {B : Nat → Nat → Int64} {s : aS} {g : Nat} (ha : rm_at o F G A B h) (hW : WF s) (hI : RI s F A B) (hg : g < 16) (h6 : aNv s < 6) : mm_V (zz_K l D aa b0) 3 yX12_voice cX12_voice 2 (some .int) 0 [(0, .ref (o)), (1, .int (nI (g)))] [] h 0 0 (fun r h' => r = some (.int (nI (aNv s))) ∧ ∃ (F' : Nat → Int32) (A' : Nat → Nat → Int32), rm_at o F' G A' B h' ∧ rm_fr o h h' ∧ RI (aVoice s g) F' A' B) := by
  have hf : rm_fr o h h := rm_fr.rf
  refine mm_iload_n dX12_voice_0 rfl 1 rfl ?_
  refine mm_i2l dX12_voice_1 ?_
  refine mm_lconst (v := lN 0) dX12_voice_2 (by decide) ?_
  refine mm_ldc2 (v := (15)) dX12_voice_3 zk_123 ?_
  refine mn_top (u := .long (lN (15))) (congrArg Value.long (by decide)) ?_
  refine rm_callSr (As := [.long ((nI (g)).toInt64), .long (lN (0)), .long (lN (15))]) (rest := []) (d2 := 0) dX12_voice_6 zc_isIn rfl rfl (Nat.le_of_ble_eq_true rfl) (Nat.le_of_ble_eq_true rfl) (by decide) (tm_isIn _ _ _) ?_
  refine mn_top (u := .int (nI (Bool.toNat (true)))) (congrArg Value.int (in_t (a := 0) (b := 15) (by decide) (by decide) (by omega) (by omega) ((nI_inb hg (by decide)).imp id (fun z => by omega)))) ?_
  refine mn_ifB_ne (tgt := 15) dX12_voice_9 (by decide) (fun c9 => ?_) (fun c9 => ?_)
  · refine mm_aload_n dX12_voice_15 rfl 0 rfl ?_
    refine rm_getI 0 dX12_voice_16 ha zf_voices (by decide) rfl rfl ?_
    refine mn_top (u := .int (nI (aNv s))) (congrArg Value.int ((hI.1.1.1))) ?_
    refine mm_bipush (v := nI 6) dX12_voice_19 (by decide) ?_
    refine mn_icmp_ne (tgt := 27) dX12_voice_21 (by decide) (by omega) (by omega) (fun c21 => ?_) (fun c21 => ?_)
    · refine mm_aload_n dX12_voice_27 rfl 0 rfl ?_
      refine rm_getA 1 dX12_voice_28 ha zf_signOf (by decide) rfl ?_
      refine mm_aload_n dX12_voice_31 rfl 0 rfl ?_
      refine rm_getI 0 dX12_voice_32 ha zf_voices (by decide) rfl rfl ?_
      refine mn_top (u := .int (nI (aNv s))) (congrArg Value.int ((hI.1.1.1))) ?_
      refine mm_iload_n dX12_voice_35 rfl 1 rfl ?_
      refine rm_iast (k := 1) dX12_voice_36 ha hf rfl rfl rfl (show aNv s < 6 from (by omega)) (fun h ha hf => ?_)
      refine mm_aload_n dX12_voice_37 rfl 0 rfl ?_
      refine rm_getA 3 dX12_voice_38 ha zf_upOf (by decide) rfl ?_
      refine mm_aload_n dX12_voice_41 rfl 0 rfl ?_
      refine rm_getI 0 dX12_voice_42 ha zf_voices (by decide) rfl rfl ?_
      refine mn_top (u := .int (nI (aNv s))) (congrArg Value.int ((hI.1.1.1))) ?_
      refine mm_iconst (v := nI 1) dX12_voice_45 (by decide) ?_
      refine rm_iast (k := 3) dX12_voice_46 ha hf rfl rfl rfl (show aNv s < 6 from (by omega)) (fun h ha hf => ?_)
      refine mm_aload_n dX12_voice_47 rfl 0 rfl ?_
      refine rm_getA 4 dX12_voice_48 ha zf_downOf (by decide) rfl ?_
      refine mm_aload_n dX12_voice_51 rfl 0 rfl ?_
      refine rm_getI 0 dX12_voice_52 ha zf_voices (by decide) rfl rfl ?_
      refine mn_top (u := .int (nI (aNv s))) (congrArg Value.int ((hI.1.1.1))) ?_
      refine mm_iconst (v := nI 1) dX12_voice_55 (by decide) ?_
      refine rm_iast (k := 4) dX12_voice_56 ha hf rfl rfl rfl (show aNv s < 6 from (by omega)) (fun h ha hf => ?_)
      refine mm_aload_n dX12_voice_57 rfl 0 rfl ?_
      refine mm_dup dX12_voice_58 rfl ?_
      refine rm_getI 0 dX12_voice_59 ha zf_voices (by decide) rfl rfl ?_
      refine mn_top (u := .int (nI (aNv s))) (congrArg Value.int ((hI.1.1.1))) ?_
      refine mm_iconst (v := nI 1) dX12_voice_62 (by decide) ?_
      refine mn_iadd dX12_voice_63 ?_
      refine rm_putI 0 dX12_voice_64 ha hf zf_voices (by decide) rfl rfl rfl rfl (fun h ha hf => ?_)
      refine mm_aload_n dX12_voice_67 rfl 0 rfl ?_
      refine rm_getI 0 dX12_voice_68 ha zf_voices (by decide) rfl rfl ?_
      refine mn_top (u := .int (nI ((aNv s) + (1)))) (congrArg Value.int (pk_us)) ?_
      refine mm_iconst (v := nI 1) dX12_voice_71 (by decide) ?_
      refine mn_isub dX12_voice_72 (by omega) ?_
      refine mn_top (u := .int (nI (aNv s))) (congrArg Value.int (by rw [Nat.add_sub_cancel])) ?_
      exact mm_iret dX12_voice_73 rfl (⟨rfl, _, _, ha, hf, RI_voice hW hI h6 hg⟩)
    · omega
  · cases c9
