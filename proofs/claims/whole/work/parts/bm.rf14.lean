/-! the reference: a row is laid -/
set_option maxRecDepth 100000 in
set_option maxHeartbeats 4000000 in
theorem tm_lay {l : Launch} {D : va_G} {aa : Nat → ClassId} {b0 : Nat} {h : mm_H} {o : Nat} {F : Nat → Int32} {G : Nat → Int64} {A : Nat → Nat → Int32} {B : Nat → Nat → Int64}  {n k : Nat} (ha : rm_at o F G A B h) (hn : 1 ≤ n ∧ n ≤ 3) (hk : k < 2744) (hst : ∀ i, i < 6 → st1 A i) : mm_V (zz_K l D aa b0) 1 yX12_lay cX12_lay 8 (some .int) 0 [(0, .ref (o)), (1, .int (nI (n))), (2, .int (nI (k)))] [] h 0 0 (fun r h' => r = some (.int (nI (oddN (dg n k)))) ∧ ∃ (F' : Nat → Int32) (A' : Nat → Nat → Int32), rm_at o F' G A' B h' ∧ rm_fr o h h' ∧ (∀ j, j ≠ 15 → F' j = F j) ∧ (∀ j, j ≠ 16 → j ≠ 17 → j ≠ 18 → A' j = A j) ∧ F' 15 = nI (wl (dg n k)).length ∧ lyr A' (wl (dg n k)) ∧ ∀ i, i < 6 → st1 A' i) := by
  have hf : rm_fr o h h := rm_fr.rf
  have lp : ∀ (r j : Nat) (pre : List Nat) (F1 : Nat → Int32) (A1 : Nat → Nat → Int32) (h1 : mm_H), j + r = n → pre.length = j → pre ++ dg r k = dg n k → (∀ i, i ≠ 15 → F1 i = F i) → (∀ i, i ≠ 16 → i ≠ 17 → i ≠ 18 → A1 i = A i) → F1 15 = nI (wl pre).length → lyr A1 (wl pre) → (∀ i, i < 6 → st1 A1 i) → rm_at o F1 G A1 B h1 → rm_fr o h h1 → mm_V (zz_K l D aa b0) 1 yX12_lay cX12_lay 8 (some .int) 38 [(0, .ref (o)), (1, .int (nI (n))), (3, .int (nI (oddN pre))), (4, .int (nI (byR r))), (5, .int (nI (k))), (6, .int (nI (j)))] [] h1 0 0 (fun r h' => r = some (.int (nI (oddN (dg n k)))) ∧ ∃ (F' : Nat → Int32) (A' : Nat → Nat → Int32), rm_at o F' G A' B h' ∧ rm_fr o h h' ∧ (∀ j, j ≠ 15 → F' j = F j) ∧ (∀ j, j ≠ 16 → j ≠ 17 → j ≠ 18 → A' j = A j) ∧ F' 15 = nI (wl (dg n k)).length ∧ lyr A' (wl (dg n k)) ∧ ∀ i, i < 6 → st1 A' i) := by
    intro r
    induction r with
    | zero =>
      intro j pre F1 A1 h1 hjr hpl hpd hF hA h15 hly hst ha hf
      have hwl := wl_len pre
      have hod := odd_le pre
      refine mm_iload dX12_lay_38 5 rfl ?_
      refine mm_iload_n dX12_lay_40 rfl 1 rfl ?_
      refine mn_icmp_ge (tgt := 141) dX12_lay_41 (by decide) (by omega) (by omega) (fun c41 => ?_) (fun c41 => ?_)
      · refine mm_iload_n dX12_lay_141 rfl 2 rfl ?_
        have e : pre = dg n k := by rw [← hpd]; exact (List.append_nil _).symm
        rw [e] at h15 hly ⊢
        exact mm_iret dX12_lay_142 rfl (⟨rfl, F1, A1, ha, hf, hF, hA, h15, hly, hst⟩)
      · omega
    | succ r ih =>
      intro j pre F1 A1 h1 hjr hpl hpd hF hA h15 hly hst ha hf
      have hwl := wl_len pre
      have hod := odd_le pre
      refine mm_iload dX12_lay_38 5 rfl ?_
      refine mm_iload_n dX12_lay_40 rfl 1 rfl ?_
      refine mn_icmp_ge (tgt := 141) dX12_lay_41 (by decide) (by omega) (by omega) (fun c41 => ?_) (fun c41 => ?_)
      · omega
      · have hr2 : r ≤ 2 := by omega
        have hby : 14 ^ r ≤ 196 ∧ 0 < 14 ^ r := ⟨Nat.le_trans (Nat.pow_le_pow_right (by decide) hr2) (by decide), Nat.pow_pos (by decide)⟩
        rw [byR_s]
        have hkb : k / 14 ^ r ≤ k := Nat.div_le_self _ _
        obtain ⟨d, hd⟩ : ∃ d, d = k / 14 ^ r % 14 := ⟨_, rfl⟩
        have hd14 : d < 14 := by rw [hd]; exact Nat.mod_lt _ (by decide)
        refine mm_iload dX12_lay_44 4 rfl ?_
        refine mm_iload dX12_lay_46 3 rfl ?_
        refine mn_idiv dX12_lay_48 (by omega) (by omega) (by omega) ?_
        refine mm_bipush (v := nI 14) dX12_lay_49 (by decide) ?_
        refine mn_irem dX12_lay_51 (by omega) (by omega) (by omega) ?_
        rw [← hd]
        refine mm_istore (L' := [(7, .int (nI (d))), (0, .ref (o)), (1, .int (nI (n))), (3, .int (nI (oddN pre))), (4, .int (nI (14 ^ r))), (5, .int (nI (k))), (6, .int (nI (j)))]) dX12_lay_52 (by decide) rfl ?_
        refine mm_aload_n dX12_lay_54 rfl 1 rfl ?_
        refine rm_getA 16 dX12_lay_55 ha zf_rowSort (by decide) rfl ?_
        refine mm_aload_n dX12_lay_58 rfl 1 rfl ?_
        refine rm_getI 15 dX12_lay_59 ha zf_size (by decide) rfl rfl ?_
        refine mn_top (u := .int (nI ((wl pre).length))) (congrArg Value.int ((h15))) ?_
        refine mm_iconst (v := nI 1) dX12_lay_62 (by decide) ?_
        refine rm_iast (k := 16) dX12_lay_63 ha hf rfl rfl rfl (show (wl pre).length < 24 from (by omega)) (fun h1 ha hf => ?_)
        refine mm_aload_n dX12_lay_64 rfl 1 rfl ?_
        refine rm_getA 17 dX12_lay_65 ha zf_rowKind (by decide) rfl ?_
        refine mm_aload_n dX12_lay_68 rfl 1 rfl ?_
        refine rm_getI 15 dX12_lay_69 ha zf_size (by decide) rfl rfl ?_
        refine mn_top (u := .int (nI ((wl pre).length))) (congrArg Value.int ((h15))) ?_
        refine mm_iload dX12_lay_72 0 rfl ?_
        refine mm_iconst (v := nI 2) dX12_lay_74 (by decide) ?_
        refine mn_idiv dX12_lay_75 (by omega) (by omega) (by omega) ?_
        refine rm_iast (k := 17) dX12_lay_76 ha hf rfl rfl rfl (show (wl pre).length < 24 from (by omega)) (fun h1 ha hf => ?_)
        refine mm_aload_n dX12_lay_77 rfl 1 rfl ?_
        refine rm_getA 18 dX12_lay_78 ha zf_rowColoured (by decide) rfl ?_
        refine mm_aload_n dX12_lay_81 rfl 1 rfl ?_
        refine rm_getI 15 dX12_lay_82 ha zf_size (by decide) rfl rfl ?_
        refine mn_top (u := .int (nI ((wl pre).length))) (congrArg Value.int ((h15))) ?_
        refine mm_iconst (v := nI 0) dX12_lay_85 (by decide) ?_
        refine rm_zast (k := 18) dX12_lay_86 ha hf rfl rfl rfl (show (wl pre).length < 24 from (by omega)) (by decide) (fun h1 ha hf => ?_)
        refine mm_aload_n dX12_lay_87 rfl 1 rfl ?_
        refine mm_dup dX12_lay_88 rfl ?_
        refine rm_getI 15 dX12_lay_89 ha zf_size (by decide) rfl rfl ?_
        refine mn_top (u := .int (nI ((wl pre).length))) (congrArg Value.int ((h15))) ?_
        refine mm_iconst (v := nI 1) dX12_lay_92 (by decide) ?_
        refine mn_iadd dX12_lay_93 ?_
        refine rm_putI 15 dX12_lay_94 ha hf zf_size (by decide) rfl rfl rfl rfl (fun h1 ha hf => ?_)
        obtain ⟨A2, hA2⟩ : ∃ A2, A2 = (rm_up (rm_up (rm_up A1 16 (upd (A1 16) ((wl pre).length) (nI (1)))) 17 (upd ((rm_up A1 16 (upd (A1 16) ((wl pre).length) (nI (1)))) 17) ((wl pre).length) (nI ((d) / (2))))) 18 (upd ((rm_up (rm_up A1 16 (upd (A1 16) ((wl pre).length) (nI (1)))) 17 (upd ((rm_up A1 16 (upd (A1 16) ((wl pre).length) (nI (1)))) 17) ((wl pre).length) (nI ((d) / (2))))) 18) ((wl pre).length) (nI (0)))) := ⟨_, rfl⟩
        rw [← hA2] at ha
        have g16 : A2 16 = upd (A1 16) (wl pre).length (nI 1) := by rw [hA2]; simp only [rm_up, Nat.reduceEqDiff, if_false, reduceIte]
        have g17 : A2 17 = upd (A1 17) (wl pre).length (nI (d / 2)) := by rw [hA2]; simp only [rm_up, Nat.reduceEqDiff, if_false, reduceIte]
        have g18 : A2 18 = upd (A1 18) (wl pre).length (nI 0) := by rw [hA2]; simp only [rm_up, Nat.reduceEqDiff, if_false, reduceIte]
        have gn : ∀ i, i ≠ 16 → i ≠ 17 → i ≠ 18 → A2 i = A i := fun i z1 z2 z3 => by rw [hA2, rm_up_n z3, rm_up_n z2, rm_up_n z1]; exact hA i z1 z2 z3
        have hly2 := lyr_n hly g16 g17 g18
        have hst2 := st1_n hst (show d / 2 < 7 by omega) g17 g18
        have hl2 : (wl pre ++ [(1, d / 2)]).length = (wl pre).length + 1 := by rw [List.length_append]; rfl
        have hpd2 : (pre ++ [d]) ++ dg r k = dg n k := by rw [← hpd, List.append_assoc, hd]; rfl
        have hpl2 : (pre ++ [d]).length = j + 1 := by rw [List.length_append, hpl]; rfl
        have hod2 : oddN (pre ++ [d]) = oddN pre + d % 2 := by rw [odd_app]; unfold oddN; rw [List.map_cons, List.sum_cons]; rfl
        refine mm_iload dX12_lay_97 0 rfl ?_
        refine mm_iconst (v := nI 2) dX12_lay_99 (by decide) ?_
        refine mn_irem dX12_lay_100 (by omega) (by omega) (by omega) ?_
        refine mm_iconst (v := nI 1) dX12_lay_101 (by decide) ?_
        refine mn_icmp_ne (tgt := 128) dX12_lay_102 (by decide) (by omega) (by omega) (fun c102 => ?_) (fun c102 => ?_)
        · have ho : ¬ d % 2 = 1 := c102
          have hw : wl (pre ++ [d]) = wl pre ++ [(1, d / 2)] := by rw [wl_app, wl_cons, if_neg ho]; rfl
          have hod3 : oddN pre = oddN (pre ++ [d]) := by omega
          refine mm_iload dX12_lay_128 4 rfl ?_
          refine mm_bipush (v := nI 14) dX12_lay_130 (by decide) ?_
          refine mn_idiv dX12_lay_132 (by omega) (by omega) (by omega) ?_
          refine mn_top (u := .int (nI (byR r))) (congrArg Value.int (congrArg nI (byR_d r))) ?_
          refine mm_istore (L' := [(4, .int (nI (byR r))), (7, .int (nI (d))), (0, .ref (o)), (1, .int (nI (n))), (3, .int (nI (oddN pre))), (5, .int (nI (k))), (6, .int (nI (j)))]) dX12_lay_133 (by decide) rfl ?_
          refine mn_iinc (m := 1) (L' := [(6, .int (nI (j + 1))), (4, .int (nI (byR r))), (7, .int (nI (d))), (0, .ref (o)), (1, .int (nI (n))), (3, .int (nI (oddN pre))), (5, .int (nI (k)))]) dX12_lay_135 (by decide) 6 rfl (by decide) rfl ?_
          refine mm_goto (tgt := 38) dX12_lay_138 (by decide) ?_
          refine mn_sub [3, 4, 5, 1, 6, 0] rfl ?_
          rw [hod3]
          exact ih (j + 1) (pre ++ [d]) (upd F1 15 (nI (((wl pre).length) + (1)))) A2 _ (by omega) hpl2 hpd2 (fun i hi => (pk_un hi).trans (hF i hi)) gn (by rw [hw, hl2]; exact pk_us) (by rw [hw]; exact hly2) hst2 ha hf
        · have ho : d % 2 = 1 := c102
          have hw : wl (pre ++ [d]) = (wl pre ++ [(1, d / 2)]) ++ [(3, 0)] := by rw [wl_app, wl_cons, if_pos ho, List.append_assoc]; rfl
          have hod3 : oddN pre + 1 = oddN (pre ++ [d]) := by omega
          refine mm_aload_n dX12_lay_105 rfl 1 rfl ?_
          refine rm_getA 16 dX12_lay_106 ha zf_rowSort (by decide) rfl ?_
          refine mm_aload_n dX12_lay_109 rfl 1 rfl ?_
          refine rm_getI 15 dX12_lay_110 ha zf_size (by decide) rfl rfl ?_
          refine mn_top (u := .int (nI (((wl pre).length) + (1)))) (congrArg Value.int (pk_us)) ?_
          refine mm_iconst (v := nI 3) dX12_lay_113 (by decide) ?_
          refine rm_iast (k := 16) dX12_lay_114 ha hf rfl rfl rfl (show ((wl pre).length) + (1) < 24 from (by omega)) (fun h1 ha hf => ?_)
          refine mm_aload_n dX12_lay_115 rfl 1 rfl ?_
          refine mm_dup dX12_lay_116 rfl ?_
          refine rm_getI 15 dX12_lay_117 ha zf_size (by decide) rfl rfl ?_
          refine mn_top (u := .int (nI (((wl pre).length) + (1)))) (congrArg Value.int (pk_us)) ?_
          refine mm_iconst (v := nI 1) dX12_lay_120 (by decide) ?_
          refine mn_iadd dX12_lay_121 ?_
          refine rm_putI 15 dX12_lay_122 ha hf zf_size (by decide) rfl rfl rfl rfl (fun h1 ha hf => ?_)
          refine mn_iinc (m := 1) (L' := [(3, .int (nI (oddN pre + 1))), (7, .int (nI (d))), (0, .ref (o)), (1, .int (nI (n))), (4, .int (nI (14 ^ r))), (5, .int (nI (k))), (6, .int (nI (j)))]) dX12_lay_125 (by decide) 3 rfl (by decide) rfl ?_
          refine mm_iload dX12_lay_128 4 rfl ?_
          refine mm_bipush (v := nI 14) dX12_lay_130 (by decide) ?_
          refine mn_idiv dX12_lay_132 (by omega) (by omega) (by omega) ?_
          refine mn_top (u := .int (nI (byR r))) (congrArg Value.int (congrArg nI (byR_d r))) ?_
          refine mm_istore (L' := [(4, .int (nI (byR r))), (3, .int (nI (oddN pre + 1))), (7, .int (nI (d))), (0, .ref (o)), (1, .int (nI (n))), (5, .int (nI (k))), (6, .int (nI (j)))]) dX12_lay_133 (by decide) rfl ?_
          refine mn_iinc (m := 1) (L' := [(6, .int (nI (j + 1))), (4, .int (nI (byR r))), (3, .int (nI (oddN pre + 1))), (7, .int (nI (d))), (0, .ref (o)), (1, .int (nI (n))), (5, .int (nI (k)))]) dX12_lay_135 (by decide) 6 rfl (by decide) rfl ?_
          refine mm_goto (tgt := 38) dX12_lay_138 (by decide) ?_
          refine mn_sub [4, 5, 2, 1, 6, 0] rfl ?_
          rw [hod3]
          have hly3 := lyr_d (A' := (rm_up A2 16 (upd (A2 16) (((wl pre).length) + (1)) (nI (3))))) hly2 (by rw [rm_up_s, hl2]) (rm_up_n (by decide)) (rm_up_n (by decide))
          refine ih (j + 1) (pre ++ [d]) (upd (upd F1 15 (nI (((wl pre).length) + (1)))) 15 (nI ((((wl pre).length) + (1)) + (1)))) (rm_up A2 16 (upd (A2 16) (((wl pre).length) + (1)) (nI (3)))) _ (by omega) hpl2 hpd2 (fun i hi => (pk_un hi).trans ((pk_un hi).trans (hF i hi))) (fun i z1 z2 z3 => (rm_up_n z1).trans (gn i z1 z2 z3)) ?_ ?_ (fun i hi => st1_eq (rm_up_n (by decide)) (rm_up_n (by decide)) (hst2 i hi)) ha hf
          · rw [hw, List.length_append, hl2]; exact pk_us
          · rw [hw]; exact hly3
  have hn3 : n = 1 ∨ n = 2 ∨ n = 3 := by omega
  rcases hn3 with rfl | rfl | rfl
  · refine mm_iconst (v := nI 0) dX12_lay_0 (by decide) ?_
    refine mm_istore_n (L' := [(3, .int (nI (0))), (0, .ref (o)), (1, .int (nI (1))), (2, .int (nI (k)))]) dX12_lay_1 rfl (by decide) rfl ?_
    refine mm_iconst (v := nI 1) dX12_lay_2 (by decide) ?_
    refine mm_istore (L' := [(4, .int (nI (1))), (3, .int (nI (0))), (0, .ref (o)), (1, .int (nI (1))), (2, .int (nI (k)))]) dX12_lay_3 (by decide) rfl ?_
    refine mm_iconst (v := nI 1) dX12_lay_5 (by decide) ?_
    refine mm_istore (L' := [(5, .int (nI (1))), (4, .int (nI (1))), (3, .int (nI (0))), (0, .ref (o)), (1, .int (nI (1))), (2, .int (nI (k)))]) dX12_lay_6 (by decide) rfl ?_
    refine mm_iload dX12_lay_8 0 rfl ?_
    refine mm_iload_n dX12_lay_10 rfl 4 rfl ?_
    refine mn_icmp_ge (tgt := 27) dX12_lay_11 (by decide) (by omega) (by omega) (fun c11 => ?_) (fun c11 => ?_)
    · refine mm_aload_n dX12_lay_27 rfl 3 rfl ?_
      refine mm_iconst (v := nI 0) dX12_lay_28 (by decide) ?_
      refine rm_putI 15 dX12_lay_29 ha hf zf_size (by decide) rfl rfl rfl rfl (fun h ha hf => ?_)
      refine mm_iload_n dX12_lay_32 rfl 5 rfl ?_
      refine mm_istore (L' := [(5, .int (nI (k))), (4, .int (nI (1))), (3, .int (nI (0))), (0, .ref (o)), (1, .int (nI (1))), (2, .int (nI (k)))]) dX12_lay_33 (by decide) rfl ?_
      refine mm_iconst (v := nI 0) dX12_lay_35 (by decide) ?_
      refine mm_istore (L' := [(6, .int (nI (0))), (5, .int (nI (k))), (4, .int (nI (1))), (3, .int (nI (0))), (0, .ref (o)), (1, .int (nI (1))), (2, .int (nI (k)))]) dX12_lay_36 (by decide) rfl ?_
      refine mn_sub [4, 5, 3, 2, 1, 0] rfl ?_
      exact lp 1 0 [] (upd F 15 (nI (0))) A _ (by decide) rfl rfl (fun i hi => pk_un hi) (fun _ _ _ _ => rfl) pk_us (fun i hi => absurd hi (Nat.not_lt_zero _)) hst ha hf
    · exact absurd c11 (by decide)
  · refine mm_iconst (v := nI 0) dX12_lay_0 (by decide) ?_
    refine mm_istore_n (L' := [(3, .int (nI (0))), (0, .ref (o)), (1, .int (nI (2))), (2, .int (nI (k)))]) dX12_lay_1 rfl (by decide) rfl ?_
    refine mm_iconst (v := nI 1) dX12_lay_2 (by decide) ?_
    refine mm_istore (L' := [(4, .int (nI (1))), (3, .int (nI (0))), (0, .ref (o)), (1, .int (nI (2))), (2, .int (nI (k)))]) dX12_lay_3 (by decide) rfl ?_
    refine mm_iconst (v := nI 1) dX12_lay_5 (by decide) ?_
    refine mm_istore (L' := [(5, .int (nI (1))), (4, .int (nI (1))), (3, .int (nI (0))), (0, .ref (o)), (1, .int (nI (2))), (2, .int (nI (k)))]) dX12_lay_6 (by decide) rfl ?_
    refine mm_iload dX12_lay_8 0 rfl ?_
    refine mm_iload_n dX12_lay_10 rfl 4 rfl ?_
    refine mn_icmp_ge (tgt := 27) dX12_lay_11 (by decide) (by omega) (by omega) (fun c11 => ?_) (fun c11 => ?_)
    · exact absurd c11 (by decide)
    refine mm_bipush (v := nI 14) dX12_lay_14 (by decide) ?_
    refine mm_iload dX12_lay_16 1 rfl ?_
    refine mn_imul dX12_lay_18 ?_
    refine mm_istore (L' := [(4, .int (nI ((14) * (1)))), (5, .int (nI (1))), (3, .int (nI (0))), (0, .ref (o)), (1, .int (nI (2))), (2, .int (nI (k)))]) dX12_lay_19 (by decide) rfl ?_
    refine mn_iinc (m := 1) (L' := [(5, .int (nI (1 + 1))), (4, .int (nI ((14) * (1)))), (3, .int (nI (0))), (0, .ref (o)), (1, .int (nI (2))), (2, .int (nI (k)))]) dX12_lay_21 (by decide) 1 rfl (by decide) rfl ?_
    refine mm_goto (tgt := 8) dX12_lay_24 (by decide) ?_
    refine mm_iload dX12_lay_8 0 rfl ?_
    refine mm_iload_n dX12_lay_10 rfl 4 rfl ?_
    refine mn_icmp_ge (tgt := 27) dX12_lay_11 (by decide) (by omega) (by omega) (fun c11 => ?_) (fun c11 => ?_)
    · refine mm_aload_n dX12_lay_27 rfl 3 rfl ?_
      refine mm_iconst (v := nI 0) dX12_lay_28 (by decide) ?_
      refine rm_putI 15 dX12_lay_29 ha hf zf_size (by decide) rfl rfl rfl rfl (fun h ha hf => ?_)
      refine mm_iload_n dX12_lay_32 rfl 5 rfl ?_
      refine mm_istore (L' := [(5, .int (nI (k))), (4, .int (nI ((14) * (1)))), (3, .int (nI (0))), (0, .ref (o)), (1, .int (nI (2))), (2, .int (nI (k)))]) dX12_lay_33 (by decide) rfl ?_
      refine mm_iconst (v := nI 0) dX12_lay_35 (by decide) ?_
      refine mm_istore (L' := [(6, .int (nI (0))), (5, .int (nI (k))), (4, .int (nI ((14) * (1)))), (3, .int (nI (0))), (0, .ref (o)), (1, .int (nI (2))), (2, .int (nI (k)))]) dX12_lay_36 (by decide) rfl ?_
      refine mn_sub [4, 5, 3, 2, 1, 0] rfl ?_
      exact lp 2 0 [] (upd F 15 (nI (0))) A _ (by decide) rfl rfl (fun i hi => pk_un hi) (fun _ _ _ _ => rfl) pk_us (fun i hi => absurd hi (Nat.not_lt_zero _)) hst ha hf
    · exact absurd c11 (by decide)
  · refine mm_iconst (v := nI 0) dX12_lay_0 (by decide) ?_
    refine mm_istore_n (L' := [(3, .int (nI (0))), (0, .ref (o)), (1, .int (nI (3))), (2, .int (nI (k)))]) dX12_lay_1 rfl (by decide) rfl ?_
    refine mm_iconst (v := nI 1) dX12_lay_2 (by decide) ?_
    refine mm_istore (L' := [(4, .int (nI (1))), (3, .int (nI (0))), (0, .ref (o)), (1, .int (nI (3))), (2, .int (nI (k)))]) dX12_lay_3 (by decide) rfl ?_
    refine mm_iconst (v := nI 1) dX12_lay_5 (by decide) ?_
    refine mm_istore (L' := [(5, .int (nI (1))), (4, .int (nI (1))), (3, .int (nI (0))), (0, .ref (o)), (1, .int (nI (3))), (2, .int (nI (k)))]) dX12_lay_6 (by decide) rfl ?_
    refine mm_iload dX12_lay_8 0 rfl ?_
    refine mm_iload_n dX12_lay_10 rfl 4 rfl ?_
    refine mn_icmp_ge (tgt := 27) dX12_lay_11 (by decide) (by omega) (by omega) (fun c11 => ?_) (fun c11 => ?_)
    · exact absurd c11 (by decide)
    refine mm_bipush (v := nI 14) dX12_lay_14 (by decide) ?_
    refine mm_iload dX12_lay_16 1 rfl ?_
    refine mn_imul dX12_lay_18 ?_
    refine mm_istore (L' := [(4, .int (nI ((14) * (1)))), (5, .int (nI (1))), (3, .int (nI (0))), (0, .ref (o)), (1, .int (nI (3))), (2, .int (nI (k)))]) dX12_lay_19 (by decide) rfl ?_
    refine mn_iinc (m := 1) (L' := [(5, .int (nI (1 + 1))), (4, .int (nI ((14) * (1)))), (3, .int (nI (0))), (0, .ref (o)), (1, .int (nI (3))), (2, .int (nI (k)))]) dX12_lay_21 (by decide) 1 rfl (by decide) rfl ?_
    refine mm_goto (tgt := 8) dX12_lay_24 (by decide) ?_
    refine mm_iload dX12_lay_8 0 rfl ?_
    refine mm_iload_n dX12_lay_10 rfl 4 rfl ?_
    refine mn_icmp_ge (tgt := 27) dX12_lay_11 (by decide) (by omega) (by omega) (fun c11 => ?_) (fun c11 => ?_)
    · exact absurd c11 (by decide)
    refine mm_bipush (v := nI 14) dX12_lay_14 (by decide) ?_
    refine mm_iload dX12_lay_16 1 rfl ?_
    refine mn_imul dX12_lay_18 ?_
    refine mm_istore (L' := [(4, .int (nI ((14) * ((14) * (1))))), (5, .int (nI (1 + 1))), (3, .int (nI (0))), (0, .ref (o)), (1, .int (nI (3))), (2, .int (nI (k)))]) dX12_lay_19 (by decide) rfl ?_
    refine mn_iinc (m := 1) (L' := [(5, .int (nI (1 + 1 + 1))), (4, .int (nI ((14) * ((14) * (1))))), (3, .int (nI (0))), (0, .ref (o)), (1, .int (nI (3))), (2, .int (nI (k)))]) dX12_lay_21 (by decide) 1 rfl (by decide) rfl ?_
    refine mm_goto (tgt := 8) dX12_lay_24 (by decide) ?_
    refine mm_iload dX12_lay_8 0 rfl ?_
    refine mm_iload_n dX12_lay_10 rfl 4 rfl ?_
    refine mn_icmp_ge (tgt := 27) dX12_lay_11 (by decide) (by omega) (by omega) (fun c11 => ?_) (fun c11 => ?_)
    · refine mm_aload_n dX12_lay_27 rfl 3 rfl ?_
      refine mm_iconst (v := nI 0) dX12_lay_28 (by decide) ?_
      refine rm_putI 15 dX12_lay_29 ha hf zf_size (by decide) rfl rfl rfl rfl (fun h ha hf => ?_)
      refine mm_iload_n dX12_lay_32 rfl 5 rfl ?_
      refine mm_istore (L' := [(5, .int (nI (k))), (4, .int (nI ((14) * ((14) * (1))))), (3, .int (nI (0))), (0, .ref (o)), (1, .int (nI (3))), (2, .int (nI (k)))]) dX12_lay_33 (by decide) rfl ?_
      refine mm_iconst (v := nI 0) dX12_lay_35 (by decide) ?_
      refine mm_istore (L' := [(6, .int (nI (0))), (5, .int (nI (k))), (4, .int (nI ((14) * ((14) * (1))))), (3, .int (nI (0))), (0, .ref (o)), (1, .int (nI (3))), (2, .int (nI (k)))]) dX12_lay_36 (by decide) rfl ?_
      refine mn_sub [4, 5, 3, 2, 1, 0] rfl ?_
      exact lp 3 0 [] (upd F 15 (nI (0))) A _ (by decide) rfl rfl (fun i hi => pk_un hi) (fun _ _ _ _ => rfl) pk_us (fun i hi => absurd hi (Nat.not_lt_zero _)) hst ha hf
    · exact absurd c11 (by decide)
