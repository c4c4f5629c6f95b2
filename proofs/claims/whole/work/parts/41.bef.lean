set_option maxRecDepth 100000 in
set_option maxHeartbeats 4000000 in
theorem tm_isBefore {l : Launch} {D : va_G} {aa : Nat → ClassId} {b0 : Nat} {h : mm_H} {o : Nat} {F : Nat → Int32} {G : Nat → Int64} {A : Nat → Nat → Int32} {B : Nat → Nat → Int64} (ha : rm_at o F G A B h) {p q : Nat} {x y : List Nat} (hx : fr_at A p x) (hy : fr_at A q y) (hp : p < 1000) (hq : q < 1000) : mm_V (zz_K l D aa b0) 0 yX12_isBefore cX12_isBefore 5 (some .boolean) 0 [(0, .ref (o)), (1, .int (nI (p))), (2, .int (nI (q)))] [] h 0 0 (fun r h' => h' = h ∧ r = some (.int (nI (Bool.toNat (bf_ x y))))) := by
  obtain ⟨x1, x2, x3, x4⟩ := hx
  obtain ⟨y1, y2, y3, y4⟩ := hy
  have sx := sn_le x
  have sy := sn_le y
  have lp : ∀ (f i n : Nat), n = min x.length y.length → i + f = n → (∀ j : Nat, j < i → x.getD j 0 = y.getD j 0) → sn_ x = sn_ y → mm_V (zz_K l D aa b0) 0 yX12_isBefore cX12_isBefore 5 (some .boolean) 70 [(0, .ref (o)), (1, .int (nI (p))), (2, .int (nI (q))), (3, .int (nI (n))), (4, .int (nI (i)))] [] h 0 0 (fun r h' => h' = h ∧ r = some (.int (nI (Bool.toNat (bf_ x y))))) := by
    intro f
    induction f with
    | zero =>
      intro i n en hin heq hsn
      refine mm_iload dX12_isBefore_70 4 rfl ?_
      refine mm_iload_n dX12_isBefore_72 rfl 3 rfl ?_
      refine mn_icmp_ge (tgt := 109) dX12_isBefore_73 (by decide) (by omega) (by omega) (fun c73 => ?_) (fun c73 => ?_)
      · refine mm_iload dX12_isBefore_109 4 rfl ?_
        refine mm_iload_n dX12_isBefore_111 rfl 3 rfl ?_
        refine mn_icmp_ge (tgt := 150) dX12_isBefore_112 (by decide) (by omega) (by omega) (fun c112 => ?_) (fun c112 => ?_)
        · refine mm_aload_n dX12_isBefore_150 rfl 0 rfl ?_
          refine rm_getA 36 dX12_isBefore_151 ha zf_formMany (by decide) rfl ?_
          refine mm_iload_n dX12_isBefore_154 rfl 1 rfl ?_
          refine rm_iald (k := 36) dX12_isBefore_155 ha rfl rfl rfl (show p < 1001 from (by omega)) ?_
          refine mn_top (u := .int (nI (x.length))) (congrArg Value.int (x1)) ?_
          refine mm_aload_n dX12_isBefore_156 rfl 0 rfl ?_
          refine rm_getA 36 dX12_isBefore_157 ha zf_formMany (by decide) rfl ?_
          refine mm_iload_n dX12_isBefore_160 rfl 2 rfl ?_
          refine rm_iald (k := 36) dX12_isBefore_161 ha rfl rfl rfl (show q < 1001 from (by omega)) ?_
          refine mn_top (u := .int (nI (y.length))) (congrArg Value.int (y1)) ?_
          refine mn_icmp_ge (tgt := 169) dX12_isBefore_162 (by decide) (by omega) (by omega) (fun c162 => ?_) (fun c162 => ?_)
          · refine mm_iconst (v := nI 0) dX12_isBefore_169 (by decide) ?_
            exact mm_zret dX12_isBefore_170 rfl (by decide) (⟨rfl, by unfold bf_; rw [if_pos hsn, lx_end (i := i) (by omega) heq, decide_eq_false (by omega)]; rfl⟩)
          · refine mm_iconst (v := nI 1) dX12_isBefore_165 (by decide) ?_
            refine mm_goto (tgt := 170) dX12_isBefore_166 (by decide) ?_
            exact mm_zret dX12_isBefore_170 rfl (by decide) (⟨rfl, by unfold bf_; rw [if_pos hsn, lx_end (i := i) (by omega) heq, decide_eq_true (by omega)]; rfl⟩)
        · omega
      · omega
    | succ f ih =>
      intro i n en hin heq hsn
      refine mm_iload dX12_isBefore_70 4 rfl ?_
      refine mm_iload_n dX12_isBefore_72 rfl 3 rfl ?_
      refine mn_icmp_ge (tgt := 109) dX12_isBefore_73 (by decide) (by omega) (by omega) (fun c73 => ?_) (fun c73 => ?_)
      · omega
      · refine mm_aload_n dX12_isBefore_76 rfl 0 rfl ?_
        refine rm_getA 35 dX12_isBefore_77 ha zf_forms (by decide) rfl ?_
        refine mm_bipush (v := nI 120) dX12_isBefore_80 (by decide) ?_
        refine mm_iload_n dX12_isBefore_82 rfl 1 rfl ?_
        refine mn_imul dX12_isBefore_83 ?_
        refine mm_iload dX12_isBefore_84 4 rfl ?_
        refine mn_iadd dX12_isBefore_86 ?_
        refine rm_iald (k := 35) dX12_isBefore_87 ha rfl rfl rfl (show ((120) * (p)) + (i) < 120000 from (by omega)) ?_
        have bx88 := (x3 i (by omega)).2
        refine mn_top (u := .int (nI (x.getD i 0))) (congrArg Value.int ((x3 i (by omega)).1)) ?_
        refine mm_aload_n dX12_isBefore_88 rfl 0 rfl ?_
        refine rm_getA 35 dX12_isBefore_89 ha zf_forms (by decide) rfl ?_
        refine mm_bipush (v := nI 120) dX12_isBefore_92 (by decide) ?_
        refine mm_iload_n dX12_isBefore_94 rfl 2 rfl ?_
        refine mn_imul dX12_isBefore_95 ?_
        refine mm_iload dX12_isBefore_96 4 rfl ?_
        refine mn_iadd dX12_isBefore_98 ?_
        refine rm_iald (k := 35) dX12_isBefore_99 ha rfl rfl rfl (show ((120) * (q)) + (i) < 120000 from (by omega)) ?_
        have by100 := (y3 i (by omega)).2
        refine mn_top (u := .int (nI (y.getD i 0))) (congrArg Value.int ((y3 i (by omega)).1)) ?_
        refine mn_icmp_ne (tgt := 109) dX12_isBefore_100 (by decide) (by omega) (by omega) (fun c100 => ?_) (fun c100 => ?_)
        · refine mm_iload dX12_isBefore_109 4 rfl ?_
          refine mm_iload_n dX12_isBefore_111 rfl 3 rfl ?_
          refine mn_icmp_ge (tgt := 150) dX12_isBefore_112 (by decide) (by omega) (by omega) (fun c112 => ?_) (fun c112 => ?_)
          · omega
          · refine mm_aload_n dX12_isBefore_115 rfl 0 rfl ?_
            refine rm_getA 35 dX12_isBefore_116 ha zf_forms (by decide) rfl ?_
            refine mm_bipush (v := nI 120) dX12_isBefore_119 (by decide) ?_
            refine mm_iload_n dX12_isBefore_121 rfl 1 rfl ?_
            refine mn_imul dX12_isBefore_122 ?_
            refine mm_iload dX12_isBefore_123 4 rfl ?_
            refine mn_iadd dX12_isBefore_125 ?_
            refine rm_iald (k := 35) dX12_isBefore_126 ha rfl rfl rfl (show ((120) * (p)) + (i) < 120000 from (by omega)) ?_
            have bx127 := (x3 i (by omega)).2
            refine mn_top (u := .int (nI (x.getD i 0))) (congrArg Value.int ((x3 i (by omega)).1)) ?_
            refine mm_aload_n dX12_isBefore_127 rfl 0 rfl ?_
            refine rm_getA 35 dX12_isBefore_128 ha zf_forms (by decide) rfl ?_
            refine mm_bipush (v := nI 120) dX12_isBefore_131 (by decide) ?_
            refine mm_iload_n dX12_isBefore_133 rfl 2 rfl ?_
            refine mn_imul dX12_isBefore_134 ?_
            refine mm_iload dX12_isBefore_135 4 rfl ?_
            refine mn_iadd dX12_isBefore_137 ?_
            refine rm_iald (k := 35) dX12_isBefore_138 ha rfl rfl rfl (show ((120) * (q)) + (i) < 120000 from (by omega)) ?_
            have by139 := (y3 i (by omega)).2
            refine mn_top (u := .int (nI (y.getD i 0))) (congrArg Value.int ((y3 i (by omega)).1)) ?_
            refine mn_icmp_ge (tgt := 146) dX12_isBefore_139 (by decide) (by omega) (by omega) (fun c139 => ?_) (fun c139 => ?_)
            · refine mm_iconst (v := nI 0) dX12_isBefore_146 (by decide) ?_
              refine mm_goto (tgt := 170) dX12_isBefore_147 (by decide) ?_
              exact mm_zret dX12_isBefore_170 rfl (by decide) (⟨rfl, by unfold bf_; rw [if_pos hsn, lx_ne (by omega) (by omega) heq c100, decide_eq_false (by omega)]; rfl⟩)
            · refine mm_iconst (v := nI 1) dX12_isBefore_142 (by decide) ?_
              refine mm_goto (tgt := 170) dX12_isBefore_143 (by decide) ?_
              exact mm_zret dX12_isBefore_170 rfl (by decide) (⟨rfl, by unfold bf_; rw [if_pos hsn, lx_ne (by omega) (by omega) heq c100, decide_eq_true (by omega)]; rfl⟩)
        · refine mn_iinc (m := 1) (L' := [(4, .int (nI (i + 1))), (0, .ref (o)), (1, .int (nI (p))), (2, .int (nI (q))), (3, .int (nI (n)))]) dX12_isBefore_103 (by decide) 4 rfl (by decide) rfl ?_
          refine mm_goto (tgt := 70) dX12_isBefore_106 (by decide) ?_
          refine mn_sub [1, 2, 3, 4, 0] rfl ?_
          exact ih (i + 1) n en (by omega) (fun j hj => by rcases Nat.lt_or_ge j i with z | z; exact heq j z; rw [show j = i from by omega]; exact c100) hsn
  refine mm_aload_n dX12_isBefore_0 rfl 0 rfl ?_
  refine rm_getA 37 dX12_isBefore_1 ha zf_strain (by decide) rfl ?_
  refine mm_iload_n dX12_isBefore_4 rfl 1 rfl ?_
  refine rm_iald (k := 37) dX12_isBefore_5 ha rfl rfl rfl (show p < 1001 from (by omega)) ?_
  refine mn_top (u := .int (nI (sn_ x))) (congrArg Value.int (x2)) ?_
  refine mm_aload_n dX12_isBefore_6 rfl 0 rfl ?_
  refine rm_getA 37 dX12_isBefore_7 ha zf_strain (by decide) rfl ?_
  refine mm_iload_n dX12_isBefore_10 rfl 2 rfl ?_
  refine rm_iald (k := 37) dX12_isBefore_11 ha rfl rfl rfl (show q < 1001 from (by omega)) ?_
  refine mn_top (u := .int (nI (sn_ y))) (congrArg Value.int (y2)) ?_
  refine mn_icmp_eq (tgt := 36) dX12_isBefore_12 (by decide) (by omega) (by omega) (fun c12 => ?_) (fun c12 => ?_)
  · refine mm_aload_n dX12_isBefore_36 rfl 0 rfl ?_
    refine rm_getA 36 dX12_isBefore_37 ha zf_formMany (by decide) rfl ?_
    refine mm_iload_n dX12_isBefore_40 rfl 1 rfl ?_
    refine rm_iald (k := 36) dX12_isBefore_41 ha rfl rfl rfl (show p < 1001 from (by omega)) ?_
    refine mn_top (u := .int (nI (x.length))) (congrArg Value.int (x1)) ?_
    refine mm_aload_n dX12_isBefore_42 rfl 0 rfl ?_
    refine rm_getA 36 dX12_isBefore_43 ha zf_formMany (by decide) rfl ?_
    refine mm_iload_n dX12_isBefore_46 rfl 2 rfl ?_
    refine rm_iald (k := 36) dX12_isBefore_47 ha rfl rfl rfl (show q < 1001 from (by omega)) ?_
    refine mn_top (u := .int (nI (y.length))) (congrArg Value.int (y1)) ?_
    refine mn_icmp_ge (tgt := 60) dX12_isBefore_48 (by decide) (by omega) (by omega) (fun c48 => ?_) (fun c48 => ?_)
    · refine mm_aload_n dX12_isBefore_60 rfl 0 rfl ?_
      refine rm_getA 36 dX12_isBefore_61 ha zf_formMany (by decide) rfl ?_
      refine mm_iload_n dX12_isBefore_64 rfl 2 rfl ?_
      refine rm_iald (k := 36) dX12_isBefore_65 ha rfl rfl rfl (show q < 1001 from (by omega)) ?_
      refine mn_top (u := .int (nI (y.length))) (congrArg Value.int (y1)) ?_
      refine mm_istore_n (L' := [(3, .int (nI (y.length))), (0, .ref (o)), (1, .int (nI (p))), (2, .int (nI (q)))]) dX12_isBefore_66 rfl (by decide) rfl ?_
      refine mm_iconst (v := nI 0) dX12_isBefore_67 (by decide) ?_
      refine mm_istore (L' := [(4, .int (nI (0))), (3, .int (nI (y.length))), (0, .ref (o)), (1, .int (nI (p))), (2, .int (nI (q)))]) dX12_isBefore_68 (by decide) rfl ?_
      refine mn_sub [2, 3, 4, 1, 0] rfl ?_
      exact lp _ 0 _ (by omega) (Nat.zero_add _) (fun j hj => by omega) c12
    · refine mm_aload_n dX12_isBefore_51 rfl 0 rfl ?_
      refine rm_getA 36 dX12_isBefore_52 ha zf_formMany (by decide) rfl ?_
      refine mm_iload_n dX12_isBefore_55 rfl 1 rfl ?_
      refine rm_iald (k := 36) dX12_isBefore_56 ha rfl rfl rfl (show p < 1001 from (by omega)) ?_
      refine mn_top (u := .int (nI (x.length))) (congrArg Value.int (x1)) ?_
      refine mm_goto (tgt := 66) dX12_isBefore_57 (by decide) ?_
      refine mm_istore_n (L' := [(3, .int (nI (x.length))), (0, .ref (o)), (1, .int (nI (p))), (2, .int (nI (q)))]) dX12_isBefore_66 rfl (by decide) rfl ?_
      refine mm_iconst (v := nI 0) dX12_isBefore_67 (by decide) ?_
      refine mm_istore (L' := [(4, .int (nI (0))), (3, .int (nI (x.length))), (0, .ref (o)), (1, .int (nI (p))), (2, .int (nI (q)))]) dX12_isBefore_68 (by decide) rfl ?_
      refine mn_sub [2, 3, 4, 1, 0] rfl ?_
      exact lp _ 0 _ (by omega) (Nat.zero_add _) (fun j hj => by omega) c12
  · refine mm_aload_n dX12_isBefore_15 rfl 0 rfl ?_
    refine rm_getA 37 dX12_isBefore_16 ha zf_strain (by decide) rfl ?_
    refine mm_iload_n dX12_isBefore_19 rfl 1 rfl ?_
    refine rm_iald (k := 37) dX12_isBefore_20 ha rfl rfl rfl (show p < 1001 from (by omega)) ?_
    refine mn_top (u := .int (nI (sn_ x))) (congrArg Value.int (x2)) ?_
    refine mm_aload_n dX12_isBefore_21 rfl 0 rfl ?_
    refine rm_getA 37 dX12_isBefore_22 ha zf_strain (by decide) rfl ?_
    refine mm_iload_n dX12_isBefore_25 rfl 2 rfl ?_
    refine rm_iald (k := 37) dX12_isBefore_26 ha rfl rfl rfl (show q < 1001 from (by omega)) ?_
    refine mn_top (u := .int (nI (sn_ y))) (congrArg Value.int (y2)) ?_
    refine mn_icmp_ge (tgt := 34) dX12_isBefore_27 (by decide) (by omega) (by omega) (fun c27 => ?_) (fun c27 => ?_)
    · refine mm_iconst (v := nI 0) dX12_isBefore_34 (by decide) ?_
      exact mm_zret dX12_isBefore_35 rfl (by decide) (⟨rfl, by unfold bf_; rw [if_neg c12, decide_eq_false (by omega)]; rfl⟩)
    · refine mm_iconst (v := nI 1) dX12_isBefore_30 (by decide) ?_
      refine mm_goto (tgt := 35) dX12_isBefore_31 (by decide) ?_
      exact mm_zret dX12_isBefore_35 rfl (by decide) (⟨rfl, by unfold bf_; rw [if_neg c12, decide_eq_true (by omega)]; rfl⟩)
