set_option maxRecDepth 100000 in
set_option maxHeartbeats 4000000 in
theorem tm_doItem {l : Launch} {D : va_G} {aa : Nat → ClassId} {b0 : Nat} {h : mm_H} {o : Nat} {F : Nat → Int32} {G : Nat → Int64} {A : Nat → Nat → Int32} {B : Nat → Nat → Int64} {w : ro_w} {sg g : Nat} {T I : Nat → Nat} {rd : Nat} {S : sc_S} {P : tk_P} (tk : tk_at o F G A B h w sg g T I rd S P) {a b rank : Nat} (hab : a < b) (hb : b ≤ 24) (hrk : rank < 3000) (hri : rank < tb_w T 0 g a b + tb_w T 1 g a b + ct_gs w a b g 0) (hl1 : P.1.length + 4 ≤ 400) (hl2 : P.2.1.length + 1 ≤ 120) : mm_V (zz_K l D aa b0) 4 yX12_doItem cX12_doItem 8 none 0 [(0, .ref (o)), (1, .int (nI (a))), (2, .int (nI (b))), (3, .int (nI (rank)))] [] h 0 0 (fun r h' => r = none ∧ ∃ (F' : Nat → Int32) (A' : Nat → Nat → Int32) (S' : sc_S), tk_at o F' G A' B h' w sg g T I rd S' (op_i w sg g T a b rank P) ∧ rm_fr o h h' ∧ tk_F F F' ∧ tk_A rd A A') := by
  have hf : rm_fr o h h := rm_fr.rf
  have hF : tk_F F F := tk_F.rf
  have hA : tk_A rd A A := tk_A.rf
  have hg := tk.2.1.2.2.1.2
  have ht := tk.2.1.2.2.2.1
  refine mm_aload_n dX12_doItem_0 rfl 0 rfl ?_
  refine mm_iconst (v := nI 0) dX12_doItem_1 (by decide) ?_
  refine mm_aload_n dX12_doItem_2 rfl 0 rfl ?_
  refine rm_getI 13 dX12_doItem_3 tk.1 zf_ground (by decide) rfl rfl ?_
  refine mn_top (u := .int (nI (g))) (congrArg Value.int ((tk.2.1.2.2.1.1))) ?_
  refine mm_iload_n dX12_doItem_6 rfl 1 rfl ?_
  refine mm_iload_n dX12_doItem_7 rfl 2 rfl ?_
  refine rm_callVr (As := [.int (nI (0)), .int (nI (g)), .int (nI (a)), .int (nI (b))]) (rest := []) (d2 := 0) dX12_doItem_8 tk.1 zc_waysOf zc_waysOf_s rfl rfl rfl (Nat.le_of_ble_eq_true rfl) (Nat.le_of_ble_eq_true rfl) (by decide) (tm_waysOf tk.1 tk.2.1.2.2.2.1 (by omega) (by omega) (by omega) (by omega)) ?_
  have wb8 : tb_w T (0) (g) (a) (b) ≤ 3000 := tb_le tk.2.1.2.2.2.1 (by omega) (by omega)
  refine mm_istore (L' := [(4, .int (nI (tb_w T (0) (g) (a) (b)))), (0, .ref (o)), (1, .int (nI (a))), (2, .int (nI (b))), (3, .int (nI (rank)))]) dX12_doItem_11 (by decide) rfl ?_
  refine mm_aload_n dX12_doItem_13 rfl 1 rfl ?_
  refine mm_iconst (v := nI 1) dX12_doItem_14 (by decide) ?_
  refine mm_aload_n dX12_doItem_15 rfl 1 rfl ?_
  refine rm_getI 13 dX12_doItem_16 tk.1 zf_ground (by decide) rfl rfl ?_
  refine mn_top (u := .int (nI (g))) (congrArg Value.int ((tk.2.1.2.2.1.1))) ?_
  refine mm_iload_n dX12_doItem_19 rfl 2 rfl ?_
  refine mm_iload_n dX12_doItem_20 rfl 3 rfl ?_
  refine rm_callVr (As := [.int (nI (1)), .int (nI (g)), .int (nI (a)), .int (nI (b))]) (rest := []) (d2 := 0) dX12_doItem_21 tk.1 zc_waysOf zc_waysOf_s rfl rfl rfl (Nat.le_of_ble_eq_true rfl) (Nat.le_of_ble_eq_true rfl) (by decide) (tm_waysOf tk.1 tk.2.1.2.2.2.1 (by omega) (by omega) (by omega) (by omega)) ?_
  have wb21 : tb_w T (1) (g) (a) (b) ≤ 3000 := tb_le tk.2.1.2.2.2.1 (by omega) (by omega)
  refine mm_istore (L' := [(5, .int (nI (tb_w T (1) (g) (a) (b)))), (4, .int (nI (tb_w T (0) (g) (a) (b)))), (0, .ref (o)), (1, .int (nI (a))), (2, .int (nI (b))), (3, .int (nI (rank)))]) dX12_doItem_24 (by decide) rfl ?_
  refine mm_iload_n dX12_doItem_26 rfl 5 rfl ?_
  refine mm_iload dX12_doItem_27 1 rfl ?_
  refine mn_icmp_ge (tgt := 45) dX12_doItem_29 (by decide) (by omega) (by omega) (fun c29 => ?_) (fun c29 => ?_)
  · refine mm_iload_n dX12_doItem_45 rfl 5 rfl ?_
    refine mm_iload dX12_doItem_46 1 rfl ?_
    refine mn_isub dX12_doItem_48 (by omega) ?_
    refine mm_istore (L' := [(6, .int (nI ((rank) - (tb_w T (0) (g) (a) (b))))), (5, .int (nI (tb_w T (1) (g) (a) (b)))), (4, .int (nI (tb_w T (0) (g) (a) (b)))), (0, .ref (o)), (1, .int (nI (a))), (2, .int (nI (b))), (3, .int (nI (rank)))]) dX12_doItem_49 (by decide) rfl ?_
    refine mm_iload dX12_doItem_51 0 rfl ?_
    refine mm_iload dX12_doItem_53 1 rfl ?_
    refine mn_icmp_ge (tgt := 72) dX12_doItem_55 (by decide) (by omega) (by omega) (fun c55 => ?_) (fun c55 => ?_)
    · refine mm_iload dX12_doItem_72 0 rfl ?_
      refine mm_iload dX12_doItem_74 1 rfl ?_
      refine mn_isub dX12_doItem_76 (by omega) ?_
      refine mm_istore (L' := [(6, .int (nI (((rank) - (tb_w T (0) (g) (a) (b))) - (tb_w T (1) (g) (a) (b))))), (5, .int (nI (tb_w T (1) (g) (a) (b)))), (4, .int (nI (tb_w T (0) (g) (a) (b)))), (0, .ref (o)), (1, .int (nI (a))), (2, .int (nI (b))), (3, .int (nI (rank)))]) dX12_doItem_77 (by decide) rfl ?_
      refine mm_iconst (v := nI 0) dX12_doItem_79 (by decide) ?_
      refine mm_istore (L' := [(7, .int (nI (0))), (6, .int (nI (((rank) - (tb_w T (0) (g) (a) (b))) - (tb_w T (1) (g) (a) (b))))), (5, .int (nI (tb_w T (1) (g) (a) (b)))), (4, .int (nI (tb_w T (0) (g) (a) (b)))), (0, .ref (o)), (1, .int (nI (a))), (2, .int (nI (b))), (3, .int (nI (rank)))]) dX12_doItem_80 (by decide) rfl ?_
      obtain ⟨x, ex⟩ : ∃ x, x = gk_ w a b g 0 (rank - tb_w T 0 g a b - tb_w T 1 g a b) := ⟨_, rfl⟩
      have hop : op_i w sg g T a b rank P = op_g w sg x.1 a b x.2 P := by unfold op_i; rw [if_neg (by omega), if_neg (by omega), ← ex]
      have lp : ∀ (f k lf : Nat), k + f = g → lf < ct_gs w a b f k → lf < 3000 → gk_ w a b f k lf = x → mm_V (zz_K l D aa b0) 4 yX12_doItem cX12_doItem 8 none 82 [(0, .ref (o)), (1, .int (nI (a))), (2, .int (nI (b))), (6, .int (nI (lf))), (7, .int (nI (k)))] [] h 0 0 (fun r h' => r = none ∧ ∃ (F' : Nat → Int32) (A' : Nat → Nat → Int32) (S' : sc_S), tk_at o F' G A' B h' w sg g T I rd S' (op_i w sg g T a b rank P) ∧ rm_fr o h h' ∧ tk_F F F' ∧ tk_A rd A A') := by
        intro f
        induction f with
        | zero =>
          intro k lf hkf hl hl3 hx
          unfold ct_gs at hl; omega
        | succ f ih =>
          intro k lf hkf hl hl3 hx
          have gb := ct_gr_le (w := w) (k := k) (a := a) hb
          refine mm_iload dX12_doItem_82 3 rfl ?_
          refine mm_aload_n dX12_doItem_84 rfl 0 rfl ?_
          refine mm_iload dX12_doItem_85 4 rfl ?_
          refine mm_iload_n dX12_doItem_87 rfl 1 rfl ?_
          refine mm_iload_n dX12_doItem_88 rfl 2 rfl ?_
          refine rm_callVr (As := [.int (nI (k)), .int (nI (a)), .int (nI (b))]) (rest := [.int (nI (lf))]) (d2 := 3) dX12_doItem_89 tk.1 zc_countGreater zc_countGreater_s rfl rfl rfl (Nat.le_of_ble_eq_true rfl) (Nat.le_of_ble_eq_true rfl) (by decide) (tm_countGreater tk.1 tk.2.1 (by omega) hab hb) ?_
          refine mn_icmp_lt (tgt := 114) dX12_doItem_92 (by decide) (by omega) (by omega) (fun c92 => ?_) (fun c92 => ?_)
          · have hx : (k, lf) = x := by rw [← hx]; unfold gk_; rw [if_neg (by omega)]
            subst hx
            refine mm_aload_n dX12_doItem_114 rfl 0 rfl ?_
            refine mm_iload dX12_doItem_115 4 rfl ?_
            refine mm_iload_n dX12_doItem_117 rfl 1 rfl ?_
            refine mm_iload_n dX12_doItem_118 rfl 2 rfl ?_
            refine mm_iload dX12_doItem_119 3 rfl ?_
            refine rm_callV (As := [.int (nI (k)), .int (nI (a)), .int (nI (b)), .int (nI (lf))]) (rest := []) (d2 := 3) dX12_doItem_121 tk.1 zc_doGreater zc_doGreater_s rfl rfl rfl (Nat.le_of_ble_eq_true rfl) (Nat.le_of_ble_eq_true rfl) (by decide) (tm_doGreater tk (by omega) hab hb hl3 (gr_pick (by omega)) (by omega) (by omega)) (fun r h1 hq => ?_)
            obtain ⟨rfl, F1, A1, S1, tk, hf', hF', hA'⟩ := hq
            have hf := hf.tr hf'
            have hF := hF.tr hF'
            have hA := hA.tr hA'
            exact mm_vret dX12_doItem_124 rfl (⟨rfl, _, _, _, by rw [hop]; exact tk, hf, hF, hA⟩)
          · refine mm_iload dX12_doItem_95 3 rfl ?_
            refine mm_aload_n dX12_doItem_97 rfl 0 rfl ?_
            refine mm_iload dX12_doItem_98 4 rfl ?_
            refine mm_iload_n dX12_doItem_100 rfl 1 rfl ?_
            refine mm_iload_n dX12_doItem_101 rfl 2 rfl ?_
            refine rm_callVr (As := [.int (nI (k)), .int (nI (a)), .int (nI (b))]) (rest := [.int (nI (lf))]) (d2 := 3) dX12_doItem_102 tk.1 zc_countGreater zc_countGreater_s rfl rfl rfl (Nat.le_of_ble_eq_true rfl) (Nat.le_of_ble_eq_true rfl) (by decide) (tm_countGreater tk.1 tk.2.1 (by omega) hab hb) ?_
            refine mn_isub dX12_doItem_105 (by omega) ?_
            refine mm_istore (L' := [(6, .int (nI ((lf) - (ct_gr w k a b)))), (0, .ref (o)), (1, .int (nI (a))), (2, .int (nI (b))), (7, .int (nI (k)))]) dX12_doItem_106 (by decide) rfl ?_
            refine mn_iinc (m := 1) (L' := [(7, .int (nI (k + 1))), (6, .int (nI ((lf) - (ct_gr w k a b)))), (0, .ref (o)), (1, .int (nI (a))), (2, .int (nI (b)))]) dX12_doItem_108 (by decide) 4 rfl (by decide) rfl ?_
            refine mm_goto (tgt := 82) dX12_doItem_111 (by decide) ?_
            have hl2 : lf < ct_gr w k a b + ct_gs w a b f (k + 1) := hl
            refine mn_sub [2, 3, 4, 1, 0] rfl ?_
            exact ih (k + 1) _ (by omega) (by omega) (by omega) (by rw [← hx]; conv => rhs; unfold gk_; rw [if_pos (by omega)])
      refine mn_sub [4, 5, 6, 1, 0] rfl ?_
      exact lp g 0 _ (by omega) (by omega) (by omega) ex.symm
    · rw [show op_i w sg g T a b rank P = op_p (1, g, a, b, rank - tb_w T 0 g a b) P from by unfold op_i; rw [if_neg (by omega), if_pos (by omega)]]
      refine mm_aload_n dX12_doItem_58 rfl 3 rfl ?_
      refine mm_iconst (v := nI 1) dX12_doItem_59 (by decide) ?_
      refine mm_aload_n dX12_doItem_60 rfl 3 rfl ?_
      refine rm_getI 13 dX12_doItem_61 tk.1 zf_ground (by decide) rfl rfl ?_
      refine mn_top (u := .int (nI (g))) (congrArg Value.int ((tk.2.1.2.2.1.1))) ?_
      refine mm_iload_n dX12_doItem_64 rfl 4 rfl ?_
      refine mm_iload_n dX12_doItem_65 rfl 5 rfl ?_
      refine mm_iload dX12_doItem_66 0 rfl ?_
      refine rm_callV (As := [.int (nI (1)), .int (nI (g)), .int (nI (a)), .int (nI (b)), .int (nI ((rank) - (tb_w T (0) (g) (a) (b))))]) (rest := []) (d2 := 0) dX12_doItem_68 tk.1 zc_push zc_push_s rfl rfl rfl (Nat.le_of_ble_eq_true rfl) (Nat.le_of_ble_eq_true rfl) (by decide) (tm_push tk (by (try simp only [op_t, op_p, op_l, op_3, List.length_append, List.length_cons, List.length_nil]); omega)) (fun r h1 hq => ?_)
      obtain ⟨rfl, F1, A1, tk, hf', hF', hA'⟩ := hq
      have hf := hf.tr hf'
      have hF := hF.tr hF'
      have hA := hA.tr hA'
      exact mm_vret dX12_doItem_71 rfl (⟨rfl, _, _, _, tk, hf, hF, hA⟩)
  · rw [show op_i w sg g T a b rank P = op_p (0, g, a, b, rank) P from by unfold op_i; rw [if_pos (by omega)]]
    refine mm_aload_n dX12_doItem_32 rfl 2 rfl ?_
    refine mm_iconst (v := nI 0) dX12_doItem_33 (by decide) ?_
    refine mm_aload_n dX12_doItem_34 rfl 2 rfl ?_
    refine rm_getI 13 dX12_doItem_35 tk.1 zf_ground (by decide) rfl rfl ?_
    refine mn_top (u := .int (nI (g))) (congrArg Value.int ((tk.2.1.2.2.1.1))) ?_
    refine mm_iload_n dX12_doItem_38 rfl 3 rfl ?_
    refine mm_iload_n dX12_doItem_39 rfl 4 rfl ?_
    refine mm_iload_n dX12_doItem_40 rfl 5 rfl ?_
    refine rm_callV (As := [.int (nI (0)), .int (nI (g)), .int (nI (a)), .int (nI (b)), .int (nI (rank))]) (rest := []) (d2 := 0) dX12_doItem_41 tk.1 zc_push zc_push_s rfl rfl rfl (Nat.le_of_ble_eq_true rfl) (Nat.le_of_ble_eq_true rfl) (by decide) (tm_push tk (by (try simp only [op_t, op_p, op_l, op_3, List.length_append, List.length_cons, List.length_nil]); omega)) (fun r h1 hq => ?_)
    obtain ⟨rfl, F1, A1, tk, hf', hF', hA'⟩ := hq
    have hf := hf.tr hf'
    have hF := hF.tr hF'
    have hA := hA.tr hA'
    exact mm_vret dX12_doItem_44 rfl (⟨rfl, _, _, _, tk, hf, hF, hA⟩)
set_option maxRecDepth 100000 in
set_option maxHeartbeats 4000000 in
theorem tm_doItems {l : Launch} {D : va_G} {aa : Nat → ClassId} {b0 : Nat} {h : mm_H} {o : Nat} {F : Nat → Int32} {G : Nat → Int64} {A : Nat → Nat → Int32} {B : Nat → Nat → Int64} {w : ro_w} {sg g : Nat} {T I : Nat → Nat} {rd : Nat} {S : sc_S} {P : tk_P} (tk : tk_at o F G A B h w sg g T I rd S P) {a rank : Nat} (ha24 : a ≤ w.1) (hrk : rank < 3000) (hri : a < w.1 → rank < iw_s w g T I a (w.1 - a) (a + 1)) (hl1 : P.1.length + 5 ≤ 400) (hl2 : P.2.1.length + 1 ≤ 120) : mm_V (zz_K l D aa b0) 5 yX12_doItems cX12_doItems 7 none 0 [(0, .ref (o)), (1, .int (nI (a))), (2, .int (nI (rank)))] [] h 0 0 (fun r h' => r = none ∧ ∃ (F' : Nat → Int32) (A' : Nat → Nat → Int32) (S' : sc_S), tk_at o F' G A' B h' w sg g T I rd S' (op_is w sg g T I a rank P) ∧ rm_fr o h h' ∧ tk_F F F' ∧ tk_A rd A A') := by
  have hf : rm_fr o h h := rm_fr.rf
  have hF : tk_F F F := tk_F.rf
  have hA : tk_A rd A A := tk_A.rf
  have hn := tk.2.1.1.1
  have hIw := tk.2.2.1
  refine mm_iload_n dX12_doItems_0 rfl 1 rfl ?_
  refine mm_aload_n dX12_doItems_1 rfl 0 rfl ?_
  refine rm_getI 15 dX12_doItems_2 tk.1 zf_size (by decide) rfl rfl ?_
  refine mn_top (u := .int (nI (w.1))) (congrArg Value.int ((tk.2.1.1.2.1))) ?_
  refine mn_icmp_ne (tgt := 9) dX12_doItems_5 (by decide) (by omega) (by omega) (fun c5 => ?_) (fun c5 => ?_)
  · obtain ⟨x, ex⟩ : ∃ x, x = ik_ w g T I a (w.1 - a) (a + 1) rank := ⟨_, rfl⟩
    have hop : op_is w sg g T I a rank P = op_i w sg g T a x.1 (x.2 / I x.1) (op_p (3, 0, x.1, 0, x.2 % I x.1) P) := by unfold op_is; rw [if_neg (by omega), ← ex]
    refine mm_iload_n dX12_doItems_9 rfl 2 rfl ?_
    refine mm_istore_n (L' := [(3, .int (nI (rank))), (0, .ref (o)), (1, .int (nI (a))), (2, .int (nI (rank)))]) dX12_doItems_10 rfl (by decide) rfl ?_
    refine mm_iload_n dX12_doItems_11 rfl 2 rfl ?_
    refine mm_iconst (v := nI 1) dX12_doItems_12 (by decide) ?_
    refine mn_iadd dX12_doItems_13 ?_
    refine mm_istore (L' := [(4, .int (nI ((a) + (1)))), (3, .int (nI (rank))), (0, .ref (o)), (1, .int (nI (a))), (2, .int (nI (rank)))]) dX12_doItems_14 (by decide) rfl ?_
    refine mm_iconst (v := nI 1) dX12_doItems_16 (by decide) ?_
    refine mm_istore (L' := [(5, .int (nI (1))), (4, .int (nI ((a) + (1)))), (3, .int (nI (rank))), (0, .ref (o)), (1, .int (nI (a))), (2, .int (nI (rank)))]) dX12_doItems_17 (by decide) rfl ?_
    have lp : ∀ (f b lf : Nat), b + f = w.1 + 1 → a < b → lf < iw_s w g T I a f b → lf < 3000 → ik_ w g T I a f b lf = x → mm_V (zz_K l D aa b0) 5 yX12_doItems cX12_doItems 7 none 19 [(0, .ref (o)), (1, .int (nI (a))), (3, .int (nI (lf))), (4, .int (nI (b))), (5, .int (nI (1)))] [] h 0 0 (fun r h' => r = none ∧ ∃ (F' : Nat → Int32) (A' : Nat → Nat → Int32) (S' : sc_S), tk_at o F' G A' B h' w sg g T I rd S' (op_is w sg g T I a rank P) ∧ rm_fr o h h' ∧ tk_F F F' ∧ tk_A rd A A') := by
      intro f
      induction f with
      | zero =>
        intro b lf hbf hab hl hl3 hx
        unfold iw_s at hl; omega
      | succ f ih =>
        intro b lf hbf hab hl hl3 hx
        have hIb := hIw b (by omega)
        have cb := ct_it_le (w := w) (g := g) (T := T) (a := a) (b := b)
        have nb := Nat.mul_le_mul cb hIb.2
        have hIb2 := hIb.2
        refine mm_iload dX12_doItems_19 4 rfl ?_
        refine mn_if_eq (tgt := 87) dX12_doItems_21 (by decide) (by omega) (fun m1 => ?_) (fun m1 => ?_)
        · omega
        · refine mm_aload_n dX12_doItems_24 rfl 0 rfl ?_
          refine mm_iload_n dX12_doItems_25 rfl 1 rfl ?_
          refine mm_iload dX12_doItems_26 3 rfl ?_
          refine rm_callVr (As := [.int (nI (a)), .int (nI (b))]) (rest := []) (d2 := 4) dX12_doItems_28 tk.1 zc_countItem zc_countItem_s rfl rfl rfl (Nat.le_of_ble_eq_true rfl) (Nat.le_of_ble_eq_true rfl) (by decide) (tm_countItem tk.1 tk.2.1 (by omega) (by omega)) ?_
          refine mm_aload_n dX12_doItems_31 rfl 0 rfl ?_
          refine rm_getA 20 dX12_doItems_32 tk.1 zf_itemWays (by decide) rfl ?_
          refine mm_iload dX12_doItems_35 3 rfl ?_
          refine rm_iald (k := 20) dX12_doItems_37 tk.1 rfl rfl rfl (show b < 25 from (by omega)) ?_
          refine mn_top (u := .int (nI (I (b)))) (congrArg Value.int ((hIw (b) (by omega)).1)) ?_
          refine mn_imul dX12_doItems_38 ?_
          refine mm_istore (L' := [(6, .int (nI ((ct_it w g T a b) * (I (b))))), (0, .ref (o)), (1, .int (nI (a))), (3, .int (nI (lf))), (4, .int (nI (b))), (5, .int (nI (1)))]) dX12_doItems_39 (by decide) rfl ?_
          refine mm_iload_n dX12_doItems_41 rfl 3 rfl ?_
          refine mm_iload dX12_doItems_42 0 rfl ?_
          refine mn_icmp_lt (tgt := 51) dX12_doItems_44 (by decide) (by omega) (by omega) (fun lt => ?_) (fun lt => ?_)
          · have hx : (b, lf) = x := by rw [← hx]; unfold ik_; rw [if_neg (by omega)]
            subst hx
            have hI0 : 0 < I b := Nat.pos_of_ne_zero (fun z => by rw [z, Nat.mul_zero] at lt; omega)
            have hdv : lf / I b < ct_it w g T a b := Nat.div_lt_of_lt_mul (by rw [Nat.mul_comm]; exact lt)
            have hdl := Nat.div_le_self lf (I b)
            have hcle : ct_it w g T a b ≤ tb_w T 0 g a b + tb_w T 1 g a b + ct_gs w a b g 0 := Nat.min_le_left _ _
            refine mm_iconst (v := nI 0) dX12_doItems_51 (by decide) ?_
            refine mm_istore (L' := [(5, .int (nI (0))), (6, .int (nI ((ct_it w g T a b) * (I (b))))), (0, .ref (o)), (1, .int (nI (a))), (3, .int (nI (lf))), (4, .int (nI (b)))]) dX12_doItems_52 (by decide) rfl ?_
            refine mm_iload dX12_doItems_54 0 rfl ?_
            refine mn_if_eq (tgt := 66) dX12_doItems_56 (by decide) (by omega) (fun z56 => ?_) (fun z56 => ?_)
            · refine mm_iload_n dX12_doItems_66 rfl 4 rfl ?_
              refine mm_istore_n (L' := [(3, .int (nI (lf))), (5, .int (nI (0))), (6, .int (nI ((ct_it w g T a b) * (I (b))))), (0, .ref (o)), (1, .int (nI (a))), (4, .int (nI (b)))]) dX12_doItems_67 rfl (by decide) rfl ?_
              refine mm_iload dX12_doItems_68 1 rfl ?_
              refine mn_if_eq (tgt := 80) dX12_doItems_70 (by decide) (by omega) (fun z70 => ?_) (fun z70 => ?_)
              · refine mm_iload dX12_doItems_80 5 rfl ?_
                refine mm_istore (L' := [(4, .int (nI (b))), (3, .int (nI (lf))), (5, .int (nI (0))), (6, .int (nI ((ct_it w g T a b) * (I (b))))), (0, .ref (o)), (1, .int (nI (a)))]) dX12_doItems_82 (by decide) rfl ?_
                refine mm_goto (tgt := 19) dX12_doItems_84 (by decide) ?_
                refine mm_iload dX12_doItems_19 2 rfl ?_
                refine mn_if_eq (tgt := 87) dX12_doItems_21 (by decide) (by omega) (fun z21 => ?_) (fun z21 => ?_)
                · refine mm_aload_n dX12_doItems_87 rfl 4 rfl ?_
                  refine mm_iconst (v := nI 3) dX12_doItems_88 (by decide) ?_
                  refine mm_iconst (v := nI 0) dX12_doItems_89 (by decide) ?_
                  refine mm_iload dX12_doItems_90 0 rfl ?_
                  refine mm_iconst (v := nI 0) dX12_doItems_92 (by decide) ?_
                  refine mm_iload_n dX12_doItems_93 rfl 1 rfl ?_
                  refine mm_aload_n dX12_doItems_94 rfl 4 rfl ?_
                  refine rm_getA 20 dX12_doItems_95 tk.1 zf_itemWays (by decide) rfl ?_
                  refine mm_iload dX12_doItems_98 0 rfl ?_
                  refine rm_iald (k := 20) dX12_doItems_100 tk.1 rfl rfl rfl (show b < 25 from (by omega)) ?_
                  refine mn_top (u := .int (nI (I (b)))) (congrArg Value.int ((tk.2.2.1 (b) (by omega)).1)) ?_
                  refine mn_irem dX12_doItems_101 (by omega) (by omega) (by omega) ?_
                  refine rm_callV (As := [.int (nI (3)), .int (nI (0)), .int (nI (b)), .int (nI (0)), .int (nI ((lf) % (I (b))))]) (rest := []) (d2 := 0) dX12_doItems_102 tk.1 zc_push zc_push_s rfl rfl rfl (Nat.le_of_ble_eq_true rfl) (Nat.le_of_ble_eq_true rfl) (by decide) (tm_push tk (by (try simp only [op_t, op_p, op_l, op_3, List.length_append, List.length_cons, List.length_nil]); omega)) (fun r h1 hq => ?_)
                  obtain ⟨rfl, F1, A1, tk, hf', hF', hA'⟩ := hq
                  have hf := hf.tr hf'
                  have hF := hF.tr hF'
                  have hA := hA.tr hA'
                  refine mm_aload_n dX12_doItems_105 rfl 4 rfl ?_
                  refine mm_iload_n dX12_doItems_106 rfl 5 rfl ?_
                  refine mm_iload dX12_doItems_107 0 rfl ?_
                  refine mm_iload_n dX12_doItems_109 rfl 1 rfl ?_
                  refine mm_aload_n dX12_doItems_110 rfl 4 rfl ?_
                  refine rm_getA 20 dX12_doItems_111 tk.1 zf_itemWays (by decide) rfl ?_
                  refine mm_iload dX12_doItems_114 0 rfl ?_
                  refine rm_iald (k := 20) dX12_doItems_116 tk.1 rfl rfl rfl (show b < 25 from (by omega)) ?_
                  refine mn_top (u := .int (nI (I (b)))) (congrArg Value.int ((tk.2.2.1 (b) (by omega)).1)) ?_
                  refine mn_idiv dX12_doItems_117 (by omega) (by omega) (by omega) ?_
                  refine rm_callV (As := [.int (nI (a)), .int (nI (b)), .int (nI ((lf) / (I (b))))]) (rest := []) (d2 := 4) dX12_doItems_118 tk.1 zc_doItem zc_doItem_s rfl rfl rfl (Nat.le_of_ble_eq_true rfl) (Nat.le_of_ble_eq_true rfl) (by decide) (tm_doItem tk (by omega) (by omega) (by omega) (by omega) (by (try simp only [op_t, op_p, op_l, op_3, List.length_append, List.length_cons, List.length_nil]); omega) (by (try simp only [op_t, op_p, op_l, op_3, List.length_append, List.length_cons, List.length_nil]); omega)) (fun r h1 hq => ?_)
                  obtain ⟨rfl, F1, A1, S1, tk, hf', hF', hA'⟩ := hq
                  have hf := hf.tr hf'
                  have hF := hF.tr hF'
                  have hA := hA.tr hA'
                  exact mm_vret dX12_doItems_121 rfl (⟨rfl, _, _, _, by rw [hop]; exact tk, hf, hF, hA⟩)
                · omega
              · omega
            · omega
          · have hl2 : lf < ct_it w g T a b * I b + iw_s w g T I a f (b + 1) := hl
            refine mm_iconst (v := nI 1) dX12_doItems_47 (by decide) ?_
            refine mm_goto (tgt := 52) dX12_doItems_48 (by decide) ?_
            refine mm_istore (L' := [(5, .int (nI (1))), (6, .int (nI ((ct_it w g T a b) * (I (b))))), (0, .ref (o)), (1, .int (nI (a))), (3, .int (nI (lf))), (4, .int (nI (b)))]) dX12_doItems_52 (by decide) rfl ?_
            refine mm_iload dX12_doItems_54 0 rfl ?_
            refine mn_if_eq (tgt := 66) dX12_doItems_56 (by decide) (by omega) (fun z56 => ?_) (fun z56 => ?_)
            · omega
            · refine mm_iload_n dX12_doItems_59 rfl 4 rfl ?_
              refine mm_iload dX12_doItems_60 1 rfl ?_
              refine mn_isub dX12_doItems_62 (by omega) ?_
              refine mm_goto (tgt := 67) dX12_doItems_63 (by decide) ?_
              refine mm_istore_n (L' := [(3, .int (nI ((lf) - ((ct_it w g T a b) * (I (b)))))), (5, .int (nI (1))), (6, .int (nI ((ct_it w g T a b) * (I (b))))), (0, .ref (o)), (1, .int (nI (a))), (4, .int (nI (b)))]) dX12_doItems_67 rfl (by decide) rfl ?_
              refine mm_iload dX12_doItems_68 1 rfl ?_
              refine mn_if_eq (tgt := 80) dX12_doItems_70 (by decide) (by omega) (fun z70 => ?_) (fun z70 => ?_)
              · omega
              · refine mm_iload dX12_doItems_73 5 rfl ?_
                refine mm_iconst (v := nI 1) dX12_doItems_75 (by decide) ?_
                refine mn_iadd dX12_doItems_76 ?_
                refine mm_goto (tgt := 82) dX12_doItems_77 (by decide) ?_
                refine mm_istore (L' := [(4, .int (nI ((b) + (1)))), (3, .int (nI ((lf) - ((ct_it w g T a b) * (I (b)))))), (5, .int (nI (1))), (6, .int (nI ((ct_it w g T a b) * (I (b))))), (0, .ref (o)), (1, .int (nI (a)))]) dX12_doItems_82 (by decide) rfl ?_
                refine mm_goto (tgt := 19) dX12_doItems_84 (by decide) ?_
                refine mn_sub [4, 5, 1, 0, 2] rfl ?_
                exact ih (b + 1) _ (by omega) (by omega) (by omega) (by omega) (by rw [← hx]; conv => rhs; unfold ik_; rw [if_pos (by omega)])
    refine mn_sub [3, 4, 2, 1, 0] rfl ?_
    exact lp (w.1 - a) (a + 1) rank (by omega) (by omega) (hri (by omega)) (by omega) ex.symm
  · rw [show op_is w sg g T I a rank P = P from if_pos c5]
    exact mm_vret dX12_doItems_8 rfl (⟨rfl, _, _, _, tk, hf, hF, hA⟩)
