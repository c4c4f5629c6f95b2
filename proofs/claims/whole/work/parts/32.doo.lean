set_option maxRecDepth 100000 in
set_option maxHeartbeats 4000000 in
theorem tm_doThirds {l : Launch} {D : va_G} {aa : Nat → ClassId} {b0 : Nat} {h : mm_H} {o : Nat} {F : Nat → Int32} {G : Nat → Int64} {A : Nat → Nat → Int32} {B : Nat → Nat → Int64} {w : ro_w} {sg g : Nat} {T I : Nat → Nat} {rd : Nat} {S : sc_S} {P : tk_P} (tk : tk_at o F G A B h w sg g T I rd S P) {k a b : Nat} (hl1 : P.1.length + 4 ≤ 400) (hl2 : P.2.1.length + 1 ≤ 120) : mm_V (zz_K l D aa b0) 1 yX12_doThirds cX12_doThirds 4 none 0 [(0, .ref (o)), (1, .int (nI (k))), (2, .int (nI (a))), (3, .int (nI (b)))] [] h 0 0 (fun r h' => r = none ∧ ∃ (F' : Nat → Int32) (A' : Nat → Nat → Int32), tk_at o F' G A' B h' w sg g T I rd S (op_3 k a b S.2.2.2.2.1 S.2.2.2.2.2.1 P) ∧ rm_fr o h h' ∧ tk_F F F' ∧ tk_A rd A A') := by
  have hf : rm_fr o h h := rm_fr.rf
  have hF : tk_F F F := tk_F.rf
  have hA : tk_A rd A A := tk_A.rf
  refine mm_aload_n dX12_doThirds_0 rfl 0 rfl ?_
  refine mm_bipush (v := nI 15) dX12_doThirds_1 (by decide) ?_
  refine rm_callV (As := [.int (nI (15))]) (rest := []) (d2 := 0) dX12_doThirds_3 tk.1 zc_tell zc_tell_s rfl rfl rfl (Nat.le_of_ble_eq_true rfl) (Nat.le_of_ble_eq_true rfl) (by decide) (tm_tell tk (by (try simp only [op_t, op_p, op_l, op_3, List.length_append, List.length_cons, List.length_nil]); omega) (by omega)) (fun r h1 hq => ?_)
  obtain ⟨rfl, F1, A1, tk, hf', hF', hA'⟩ := hq
  have hf := hf.tr hf'
  have hF := hF.tr hF'
  have hA := hA.tr hA'
  refine mm_aload_n dX12_doThirds_6 rfl 0 rfl ?_
  refine mm_iconst (v := nI 2) dX12_doThirds_7 (by decide) ?_
  refine mm_iload_n dX12_doThirds_8 rfl 1 rfl ?_
  refine mm_aload_n dX12_doThirds_9 rfl 0 rfl ?_
  refine rm_getI 26 dX12_doThirds_10 tk.1 zf_takenCut2 (by decide) rfl rfl ?_
  refine mn_top (u := .int (nI (S.2.2.2.2.2.1))) (congrArg Value.int ((tk.2.2.2.1.2.2.2.2.2.1))) ?_
  refine mm_iload_n dX12_doThirds_13 rfl 3 rfl ?_
  refine mm_iconst (v := nI 0) dX12_doThirds_14 (by decide) ?_
  refine rm_callV (As := [.int (nI (2)), .int (nI (k)), .int (nI (S.2.2.2.2.2.1)), .int (nI (b)), .int (nI (0))]) (rest := []) (d2 := 0) dX12_doThirds_15 tk.1 zc_push zc_push_s rfl rfl rfl (Nat.le_of_ble_eq_true rfl) (Nat.le_of_ble_eq_true rfl) (by decide) (tm_push tk (by (try simp only [op_t, op_p, op_l, op_3, List.length_append, List.length_cons, List.length_nil]); omega)) (fun r h1 hq => ?_)
  obtain ⟨rfl, F1, A1, tk, hf', hF', hA'⟩ := hq
  have hf := hf.tr hf'
  have hF := hF.tr hF'
  have hA := hA.tr hA'
  refine mm_aload_n dX12_doThirds_18 rfl 0 rfl ?_
  refine mm_iconst (v := nI 2) dX12_doThirds_19 (by decide) ?_
  refine mm_iload_n dX12_doThirds_20 rfl 1 rfl ?_
  refine mm_aload_n dX12_doThirds_21 rfl 0 rfl ?_
  refine rm_getI 25 dX12_doThirds_22 tk.1 zf_takenCut (by decide) rfl rfl ?_
  refine mn_top (u := .int (nI (S.2.2.2.2.1))) (congrArg Value.int ((tk.2.2.2.1.2.2.2.2.1))) ?_
  refine mm_aload_n dX12_doThirds_25 rfl 0 rfl ?_
  refine rm_getI 26 dX12_doThirds_26 tk.1 zf_takenCut2 (by decide) rfl rfl ?_
  refine mn_top (u := .int (nI (S.2.2.2.2.2.1))) (congrArg Value.int ((tk.2.2.2.1.2.2.2.2.2.1))) ?_
  refine mm_iconst (v := nI 0) dX12_doThirds_29 (by decide) ?_
  refine rm_callV (As := [.int (nI (2)), .int (nI (k)), .int (nI (S.2.2.2.2.1)), .int (nI (S.2.2.2.2.2.1)), .int (nI (0))]) (rest := []) (d2 := 0) dX12_doThirds_30 tk.1 zc_push zc_push_s rfl rfl rfl (Nat.le_of_ble_eq_true rfl) (Nat.le_of_ble_eq_true rfl) (by decide) (tm_push tk (by (try simp only [op_t, op_p, op_l, op_3, List.length_append, List.length_cons, List.length_nil]); omega)) (fun r h1 hq => ?_)
  obtain ⟨rfl, F1, A1, tk, hf', hF', hA'⟩ := hq
  have hf := hf.tr hf'
  have hF := hF.tr hF'
  have hA := hA.tr hA'
  refine mm_aload_n dX12_doThirds_33 rfl 0 rfl ?_
  refine mm_iconst (v := nI 2) dX12_doThirds_34 (by decide) ?_
  refine mm_iload_n dX12_doThirds_35 rfl 1 rfl ?_
  refine mm_iload_n dX12_doThirds_36 rfl 2 rfl ?_
  refine mm_aload_n dX12_doThirds_37 rfl 0 rfl ?_
  refine rm_getI 25 dX12_doThirds_38 tk.1 zf_takenCut (by decide) rfl rfl ?_
  refine mn_top (u := .int (nI (S.2.2.2.2.1))) (congrArg Value.int ((tk.2.2.2.1.2.2.2.2.1))) ?_
  refine mm_iconst (v := nI 0) dX12_doThirds_41 (by decide) ?_
  refine rm_callV (As := [.int (nI (2)), .int (nI (k)), .int (nI (a)), .int (nI (S.2.2.2.2.1)), .int (nI (0))]) (rest := []) (d2 := 0) dX12_doThirds_42 tk.1 zc_push zc_push_s rfl rfl rfl (Nat.le_of_ble_eq_true rfl) (Nat.le_of_ble_eq_true rfl) (by decide) (tm_push tk (by (try simp only [op_t, op_p, op_l, op_3, List.length_append, List.length_cons, List.length_nil]); omega)) (fun r h1 hq => ?_)
  obtain ⟨rfl, F1, A1, tk, hf', hF', hA'⟩ := hq
  have hf := hf.tr hf'
  have hF := hF.tr hF'
  have hA := hA.tr hA'
  exact mm_vret dX12_doThirds_45 rfl (⟨rfl, _, _, tk, hf, hF, hA⟩)
set_option maxRecDepth 100000 in
set_option maxHeartbeats 4000000 in
theorem tm_doThird {l : Launch} {D : va_G} {aa : Nat → ClassId} {b0 : Nat} {h : mm_H} {o : Nat} {F : Nat → Int32} {G : Nat → Int64} {A : Nat → Nat → Int32} {B : Nat → Nat → Int64} {w : ro_w} {sg g : Nat} {T I : Nat → Nat} {rd : Nat} {S : sc_S} {P : tk_P} (tk : tk_at o F G A B h w sg g T I rd S P) {k a b : Nat} (hk : k < 7) (hab : b = a + 1 ∨ b = a + 2) (hb : b ≤ 24) (hl1 : P.1.length + 4 ≤ 400) (hl2 : P.2.1.length + 1 ≤ 120) : mm_V (zz_K l D aa b0) 3 yX12_doThird cX12_doThird 4 none 0 [(0, .ref (o)), (1, .int (nI (k))), (2, .int (nI (a))), (3, .int (nI (b)))] [] h 0 0 (fun r h' => r = none ∧ ∃ (F' : Nat → Int32) (A' : Nat → Nat → Int32), tk_at o F' G A' B h' w sg g T I rd S (op_d sg k a b P) ∧ rm_fr o h h' ∧ tk_F F F' ∧ tk_A rd A A') := by
  have hf : rm_fr o h h := rm_fr.rf
  have hF : tk_F F F := tk_F.rf
  have hA : tk_A rd A A := tk_A.rf
  refine mm_iload_n dX12_doThird_0 rfl 3 rfl ?_
  refine mm_iload_n dX12_doThird_1 rfl 2 rfl ?_
  refine mm_iconst (v := nI 1) dX12_doThird_2 (by decide) ?_
  refine mn_iadd dX12_doThird_3 ?_
  refine mn_icmp_ne (tgt := 28) dX12_doThird_4 (by decide) (by omega) (by omega) (fun c4 => ?_) (fun c4 => ?_)
  · rw [show op_d sg k a b P = _ from if_neg c4]
    refine mm_aload_n dX12_doThird_28 rfl 0 rfl ?_
    refine mm_bipush (v := nI 17) dX12_doThird_29 (by decide) ?_
    refine rm_callV (As := [.int (nI (17))]) (rest := []) (d2 := 0) dX12_doThird_31 tk.1 zc_tell zc_tell_s rfl rfl rfl (Nat.le_of_ble_eq_true rfl) (Nat.le_of_ble_eq_true rfl) (by decide) (tm_tell tk (by (try simp only [op_t, op_p, op_l, op_3, List.length_append, List.length_cons, List.length_nil]); omega) (by omega)) (fun r h1 hq => ?_)
    obtain ⟨rfl, F1, A1, tk, hf', hF', hA'⟩ := hq
    have hf := hf.tr hf'
    have hF := hF.tr hF'
    have hA := hA.tr hA'
    refine mm_aload_n dX12_doThird_34 rfl 0 rfl ?_
    refine mm_iload_n dX12_doThird_35 rfl 2 rfl ?_
    refine mm_aload_n dX12_doThird_36 rfl 0 rfl ?_
    refine mm_iload_n dX12_doThird_37 rfl 1 rfl ?_
    refine rm_callVr (As := [.int (nI (k))]) (rest := [.int (nI (a)), .ref (o)]) (d2 := 2) dX12_doThird_38 tk.1 zc_full zc_full_s rfl rfl rfl (Nat.le_of_ble_eq_true rfl) (Nat.le_of_ble_eq_true rfl) (by decide) (tm_full tk.1 tk.2.1 (by omega)) ?_
    have fb41 := fl_b sg tk.2.1.2.1.2 (k) (by omega)
    refine mm_iconst (v := nI 3) dX12_doThird_41 (by decide) ?_
    refine mn_idiv dX12_doThird_42 (by omega) (by omega) (by omega) ?_
    refine rm_callV (As := [.int (nI (a)), .int (nI ((fl_ sg (k)) / (3)))]) (rest := []) (d2 := 0) dX12_doThird_43 tk.1 zc_last zc_last_s rfl rfl rfl (Nat.le_of_ble_eq_true rfl) (Nat.le_of_ble_eq_true rfl) (by decide) (tm_last tk (by omega)) (fun r h1 hq => ?_)
    obtain ⟨rfl, F1, A1, tk, hf', hF', hA'⟩ := hq
    have hf := hf.tr hf'
    have hF := hF.tr hF'
    have hA := hA.tr hA'
    refine mm_aload_n dX12_doThird_46 rfl 0 rfl ?_
    refine mm_iload_n dX12_doThird_47 rfl 2 rfl ?_
    refine mm_iconst (v := nI 1) dX12_doThird_48 (by decide) ?_
    refine mn_iadd dX12_doThird_49 ?_
    refine mm_aload_n dX12_doThird_50 rfl 0 rfl ?_
    refine mm_iload_n dX12_doThird_51 rfl 1 rfl ?_
    refine rm_callVr (As := [.int (nI (k))]) (rest := [.int (nI ((a) + (1))), .ref (o)]) (d2 := 2) dX12_doThird_52 tk.1 zc_full zc_full_s rfl rfl rfl (Nat.le_of_ble_eq_true rfl) (Nat.le_of_ble_eq_true rfl) (by decide) (tm_full tk.1 tk.2.1 (by omega)) ?_
    have fb55 := fl_b sg tk.2.1.2.1.2 (k) (by omega)
    refine mm_iconst (v := nI 3) dX12_doThird_55 (by decide) ?_
    refine mn_idiv dX12_doThird_56 (by omega) (by omega) (by omega) ?_
    refine rm_callV (As := [.int (nI ((a) + (1))), .int (nI ((fl_ sg (k)) / (3)))]) (rest := []) (d2 := 0) dX12_doThird_57 tk.1 zc_last zc_last_s rfl rfl rfl (Nat.le_of_ble_eq_true rfl) (Nat.le_of_ble_eq_true rfl) (by decide) (tm_last tk (by omega)) (fun r h1 hq => ?_)
    obtain ⟨rfl, F1, A1, tk, hf', hF', hA'⟩ := hq
    have hf := hf.tr hf'
    have hF := hF.tr hF'
    have hA := hA.tr hA'
    exact mm_vret dX12_doThird_60 rfl (⟨rfl, _, _, tk, hf, hF, hA⟩)
  · rw [show op_d sg k a b P = _ from if_pos c4]
    refine mm_aload_n dX12_doThird_7 rfl 0 rfl ?_
    refine mm_bipush (v := nI 16) dX12_doThird_8 (by decide) ?_
    refine rm_callV (As := [.int (nI (16))]) (rest := []) (d2 := 0) dX12_doThird_10 tk.1 zc_tell zc_tell_s rfl rfl rfl (Nat.le_of_ble_eq_true rfl) (Nat.le_of_ble_eq_true rfl) (by decide) (tm_tell tk (by (try simp only [op_t, op_p, op_l, op_3, List.length_append, List.length_cons, List.length_nil]); omega) (by omega)) (fun r h1 hq => ?_)
    obtain ⟨rfl, F1, A1, tk, hf', hF', hA'⟩ := hq
    have hf := hf.tr hf'
    have hF := hF.tr hF'
    have hA := hA.tr hA'
    refine mm_aload_n dX12_doThird_13 rfl 0 rfl ?_
    refine mm_iload_n dX12_doThird_14 rfl 2 rfl ?_
    refine mm_iconst (v := nI 2) dX12_doThird_15 (by decide) ?_
    refine mm_aload_n dX12_doThird_16 rfl 0 rfl ?_
    refine mm_iload_n dX12_doThird_17 rfl 1 rfl ?_
    refine rm_callVr (As := [.int (nI (k))]) (rest := [.int (nI (2)), .int (nI (a)), .ref (o)]) (d2 := 2) dX12_doThird_18 tk.1 zc_full zc_full_s rfl rfl rfl (Nat.le_of_ble_eq_true rfl) (Nat.le_of_ble_eq_true rfl) (by decide) (tm_full tk.1 tk.2.1 (by omega)) ?_
    have fb21 := fl_b sg tk.2.1.2.1.2 (k) (by omega)
    refine mn_imul dX12_doThird_21 ?_
    refine mm_iconst (v := nI 3) dX12_doThird_22 (by decide) ?_
    refine mn_idiv dX12_doThird_23 (by omega) (by omega) (by omega) ?_
    refine rm_callV (As := [.int (nI (a)), .int (nI (((2) * (fl_ sg (k))) / (3)))]) (rest := []) (d2 := 0) dX12_doThird_24 tk.1 zc_last zc_last_s rfl rfl rfl (Nat.le_of_ble_eq_true rfl) (Nat.le_of_ble_eq_true rfl) (by decide) (tm_last tk (by omega)) (fun r h1 hq => ?_)
    obtain ⟨rfl, F1, A1, tk, hf', hF', hA'⟩ := hq
    have hf := hf.tr hf'
    have hF := hF.tr hF'
    have hA := hA.tr hA'
    exact mm_vret dX12_doThird_27 rfl (⟨rfl, _, _, tk, hf, hF, hA⟩)
set_option maxRecDepth 100000 in
set_option maxHeartbeats 4000000 in
theorem tm_pushTwo {l : Launch} {D : va_G} {aa : Nat → ClassId} {b0 : Nat} {h : mm_H} {o : Nat} {F : Nat → Int32} {G : Nat → Int64} {A : Nat → Nat → Int32} {B : Nat → Nat → Int64} {w : ro_w} {sg g : Nat} {T I : Nat → Nat} {rd : Nat} {S : sc_S} {P : tk_P} (tk : tk_at o F G A B h w sg g T I rd S P) {what other k a b cut : Nat} (hot : other < 2) (hk : k < 50) (hc : cut < 50) (hb : b < 25) (hn : 0 < tb_w T other k cut b) (hr : S.2.2.2.2.2.2.2 < 2 ^ 31) (hl1 : P.1.length + 4 ≤ 400) (hl2 : P.2.1.length + 1 ≤ 120) : mm_V (zz_K l D aa b0) 1 yX12_pushTwo cX12_pushTwo 8 none 0 [(0, .ref (o)), (1, .int (nI (what))), (2, .int (nI (a))), (3, .int (nI (cut))), (4, .int (nI (other))), (5, .int (nI (b))), (6, .int (nI (k)))] [] h 0 0 (fun r h' => r = none ∧ ∃ (F' : Nat → Int32) (A' : Nat → Nat → Int32), tk_at o F' G A' B h' w sg g T I rd S (op_p (what, k, a, cut, S.2.2.2.2.2.2.2 / tb_w T other k cut b) (op_p (other, k, cut, b, S.2.2.2.2.2.2.2 % tb_w T other k cut b) P)) ∧ rm_fr o h h' ∧ tk_F F F' ∧ tk_A rd A A') := by
  have hf : rm_fr o h h := rm_fr.rf
  have hF : tk_F F F := tk_F.rf
  have hA : tk_A rd A A := tk_A.rf
  refine mm_aload_n dX12_pushTwo_0 rfl 0 rfl ?_
  refine mm_iload dX12_pushTwo_1 4 rfl ?_
  refine mm_iload dX12_pushTwo_3 6 rfl ?_
  refine mm_iload_n dX12_pushTwo_5 rfl 3 rfl ?_
  refine mm_iload dX12_pushTwo_6 5 rfl ?_
  refine rm_callVr (As := [.int (nI (other)), .int (nI (k)), .int (nI (cut)), .int (nI (b))]) (rest := []) (d2 := 0) dX12_pushTwo_8 tk.1 zc_waysOf zc_waysOf_s rfl rfl rfl (Nat.le_of_ble_eq_true rfl) (Nat.le_of_ble_eq_true rfl) (by decide) (tm_waysOf tk.1 tk.2.1.2.2.2.1 (by omega) (by omega) (by omega) (by omega)) ?_
  have wb8 : tb_w T (other) (k) (cut) (b) ≤ 3000 := tb_le tk.2.1.2.2.2.1 (by omega) (by omega)
  refine mm_istore (L' := [(7, .int (nI (tb_w T (other) (k) (cut) (b)))), (0, .ref (o)), (1, .int (nI (what))), (2, .int (nI (a))), (3, .int (nI (cut))), (4, .int (nI (other))), (5, .int (nI (b))), (6, .int (nI (k)))]) dX12_pushTwo_11 (by decide) rfl ?_
  refine mm_aload_n dX12_pushTwo_13 rfl 1 rfl ?_
  refine mm_iload dX12_pushTwo_14 5 rfl ?_
  refine mm_iload dX12_pushTwo_16 7 rfl ?_
  refine mm_iload_n dX12_pushTwo_18 rfl 4 rfl ?_
  refine mm_iload dX12_pushTwo_19 6 rfl ?_
  refine mm_aload_n dX12_pushTwo_21 rfl 1 rfl ?_
  refine rm_getI 28 dX12_pushTwo_22 tk.1 zf_takenRank (by decide) rfl rfl ?_
  refine mn_top (u := .int (nI (S.2.2.2.2.2.2.2))) (congrArg Value.int ((tk.2.2.2.1.2.2.2.2.2.2.2.1))) ?_
  refine mm_iload dX12_pushTwo_25 0 rfl ?_
  refine mn_irem dX12_pushTwo_27 (by omega) (by omega) (by omega) ?_
  refine rm_callV (As := [.int (nI (other)), .int (nI (k)), .int (nI (cut)), .int (nI (b)), .int (nI ((S.2.2.2.2.2.2.2) % (tb_w T (other) (k) (cut) (b))))]) (rest := []) (d2 := 0) dX12_pushTwo_28 tk.1 zc_push zc_push_s rfl rfl rfl (Nat.le_of_ble_eq_true rfl) (Nat.le_of_ble_eq_true rfl) (by decide) (tm_push tk (by (try simp only [op_t, op_p, op_l, op_3, List.length_append, List.length_cons, List.length_nil]); omega)) (fun r h1 hq => ?_)
  obtain ⟨rfl, F1, A1, tk, hf', hF', hA'⟩ := hq
  have hf := hf.tr hf'
  have hF := hF.tr hF'
  have hA := hA.tr hA'
  refine mm_aload_n dX12_pushTwo_31 rfl 1 rfl ?_
  refine mm_iload_n dX12_pushTwo_32 rfl 2 rfl ?_
  refine mm_iload dX12_pushTwo_33 7 rfl ?_
  refine mm_iload_n dX12_pushTwo_35 rfl 3 rfl ?_
  refine mm_iload_n dX12_pushTwo_36 rfl 4 rfl ?_
  refine mm_aload_n dX12_pushTwo_37 rfl 1 rfl ?_
  refine rm_getI 28 dX12_pushTwo_38 tk.1 zf_takenRank (by decide) rfl rfl ?_
  refine mn_top (u := .int (nI (S.2.2.2.2.2.2.2))) (congrArg Value.int ((tk.2.2.2.1.2.2.2.2.2.2.2.1))) ?_
  refine mm_iload dX12_pushTwo_41 0 rfl ?_
  refine mn_idiv dX12_pushTwo_43 (by omega) (by omega) (by omega) ?_
  refine rm_callV (As := [.int (nI (what)), .int (nI (k)), .int (nI (a)), .int (nI (cut)), .int (nI ((S.2.2.2.2.2.2.2) / (tb_w T (other) (k) (cut) (b))))]) (rest := []) (d2 := 0) dX12_pushTwo_44 tk.1 zc_push zc_push_s rfl rfl rfl (Nat.le_of_ble_eq_true rfl) (Nat.le_of_ble_eq_true rfl) (by decide) (tm_push tk (by (try simp only [op_t, op_p, op_l, op_3, List.length_append, List.length_cons, List.length_nil]); omega)) (fun r h1 hq => ?_)
  obtain ⟨rfl, F1, A1, tk, hf', hF', hA'⟩ := hq
  have hf := hf.tr hf'
  have hF := hF.tr hF'
  have hA := hA.tr hA'
  exact mm_vret dX12_pushTwo_47 rfl (⟨rfl, _, _, tk, hf, hF, hA⟩)
set_option maxRecDepth 100000 in
set_option maxHeartbeats 4000000 in
theorem tm_doGreater {l : Launch} {D : va_G} {aa : Nat → ClassId} {b0 : Nat} {h : mm_H} {o : Nat} {F : Nat → Int32} {G : Nat → Int64} {A : Nat → Nat → Int32} {B : Nat → Nat → Int64} {w : ro_w} {sg g : Nat} {T I : Nat → Nat} {rd : Nat} {S : sc_S} {P : tk_P} (tk : tk_at o F G A B h w sg g T I rd S P) {k a b rank : Nat} (hk : k < 7) (hab : a < b) (hb : b ≤ 24) (hrk : rank < 3000) (hpk : ¬ b = a + 1 → ¬ (b = a + 2 ∧ ro_plain w a k = true) → ∃ e q, pk_ (sp_thirds w k a b) rank = some (e, q)) (hl1 : P.1.length + 4 ≤ 400) (hl2 : P.2.1.length + 1 ≤ 120) : mm_V (zz_K l D aa b0) 3 yX12_doGreater cX12_doGreater 5 none 0 [(0, .ref (o)), (1, .int (nI (k))), (2, .int (nI (a))), (3, .int (nI (b))), (4, .int (nI (rank)))] [] h 0 0 (fun r h' => r = none ∧ ∃ (F' : Nat → Int32) (A' : Nat → Nat → Int32) (S' : sc_S), tk_at o F' G A' B h' w sg g T I rd S' (op_g w sg k a b rank P) ∧ rm_fr o h h' ∧ tk_F F F' ∧ tk_A rd A A') := by
  have hf : rm_fr o h h := rm_fr.rf
  have hF : tk_F F F := tk_F.rf
  have hA : tk_A rd A A := tk_A.rf
  refine mm_iload_n dX12_doGreater_0 rfl 3 rfl ?_
  refine mm_iload_n dX12_doGreater_1 rfl 2 rfl ?_
  refine mm_iconst (v := nI 1) dX12_doGreater_2 (by decide) ?_
  refine mn_iadd dX12_doGreater_3 ?_
  refine mn_icmp_ne (tgt := 38) dX12_doGreater_4 (by decide) (by omega) (by omega) (fun c4 => ?_) (fun c4 => ?_)
  · refine mm_iload_n dX12_doGreater_38 rfl 3 rfl ?_
    refine mm_iload_n dX12_doGreater_39 rfl 2 rfl ?_
    refine mm_iconst (v := nI 2) dX12_doGreater_40 (by decide) ?_
    refine mn_iadd dX12_doGreater_41 ?_
    refine mn_icmp_ne (tgt := 81) dX12_doGreater_42 (by decide) (by omega) (by omega) (fun c42 => ?_) (fun c42 => ?_)
    · refine mm_aload_n dX12_doGreater_81 rfl 0 rfl ?_
      refine mm_iload dX12_doGreater_82 4 rfl ?_
      refine mn_top (u := .int (Int32.ofInt (rank : Int))) (by rfl) ?_
      refine rm_callV (As := [.int (Int32.ofInt (rank : Int))]) (rest := []) (d2 := 0) dX12_doGreater_84 tk.1 zc_beginScan zc_beginScan_s rfl rfl rfl (Nat.le_of_ble_eq_true rfl) (Nat.le_of_ble_eq_true rfl) (by decide) (tm_beginScan tk.1 tk.2.2.2.1 (by omega) (by omega)) (fun r h1 hq => ?_)
      obtain ⟨rfl, F1, ha, hf', hs, hF'⟩ := hq
      have tk := tk_sc tk ha hs hF'
      have hf := hf.tr hf'
      have hF := hF.tr (tk_F.sc hF')
      refine mm_aload_n dX12_doGreater_87 rfl 0 rfl ?_
      refine mm_iload_n dX12_doGreater_88 rfl 1 rfl ?_
      refine mm_iload_n dX12_doGreater_89 rfl 2 rfl ?_
      refine mm_iload_n dX12_doGreater_90 rfl 3 rfl ?_
      refine rm_callV (As := [.int (nI (k)), .int (nI (a)), .int (nI (b))]) (rest := []) (d2 := 2) dX12_doGreater_91 tk.1 zc_scanThirds zc_scanThirds_s rfl rfl rfl (Nat.le_of_ble_eq_true rfl) (Nat.le_of_ble_eq_true rfl) (by decide) (tm_scanThirds tk.1 tk.2.1 hs (by omega) (by omega) (by omega) rfl) (fun r h1 hq => ?_)
      obtain ⟨rfl, F1, ha, hf', hs, hF'⟩ := hq
      have tk := tk_sc tk ha hs hF'
      have hf := hf.tr hf'
      have hF := hF.tr (tk_F.sc hF')
      obtain ⟨e, q, hpk⟩ := hpk (by omega) (by rintro ⟨z1, z2⟩; simp_all)
      have hsp := sc_pick _ 0 rank S.2.2.2 e q (by omega) hpk
      rw [show ((0 + rank : Nat) : Int) = (rank : Int) from by omega] at hsp
      obtain ⟨S1, eS1⟩ : ∃ S1, S1 = List.foldl sc_step (0, (rank : Int), false, S.2.2.2) (sp_thirds w k a b) := ⟨_, rfl⟩
      rw [← eS1] at tk hs hsp
      refine mm_aload_n dX12_doGreater_94 rfl 0 rfl ?_
      refine mm_iload_n dX12_doGreater_95 rfl 1 rfl ?_
      refine mm_iload_n dX12_doGreater_96 rfl 2 rfl ?_
      refine mm_iload_n dX12_doGreater_97 rfl 3 rfl ?_
      refine rm_callV (As := [.int (nI (k)), .int (nI (a)), .int (nI (b))]) (rest := []) (d2 := 1) dX12_doGreater_98 tk.1 zc_doThirds zc_doThirds_s rfl rfl rfl (Nat.le_of_ble_eq_true rfl) (Nat.le_of_ble_eq_true rfl) (by decide) (tm_doThirds tk (by omega) (by omega)) (fun r h1 hq => ?_)
      obtain ⟨rfl, F1, A1, tk, hf', hF', hA'⟩ := hq
      have hf := hf.tr hf'
      have hF := hF.tr hF'
      have hA := hA.tr hA'
      exact mm_vret dX12_doGreater_101 rfl (⟨rfl, _, _, _, by rw [show op_g w sg k a b rank P = op_3 k a b S1.2.2.2.2.1 S1.2.2.2.2.2.1 P from by unfold op_g; rw [if_neg (by omega), if_neg (by rintro ⟨z1, z2⟩; simp_all), hpk, hsp]]; exact tk, hf, hF, hA⟩)
    · refine mm_aload_n dX12_doGreater_45 rfl 0 rfl ?_
      refine mm_iload_n dX12_doGreater_46 rfl 2 rfl ?_
      refine mm_iload_n dX12_doGreater_47 rfl 1 rfl ?_
      refine rm_callVr (As := [.int (nI (a)), .int (nI (k))]) (rest := []) (d2 := 0) dX12_doGreater_48 tk.1 zc_isPlain zc_isPlain_s rfl rfl rfl (Nat.le_of_ble_eq_true rfl) (Nat.le_of_ble_eq_true rfl) (by decide) (tm_isPlain tk.1 tk.2.1.1 (by omega) (by omega)) ?_
      refine mn_ifB_eq (tgt := 81) dX12_doGreater_51 (by decide) (fun c51 => ?_) (fun c51 => ?_)
      · refine mm_aload_n dX12_doGreater_81 rfl 0 rfl ?_
        refine mm_iload dX12_doGreater_82 4 rfl ?_
        refine mn_top (u := .int (Int32.ofInt (rank : Int))) (by rfl) ?_
        refine rm_callV (As := [.int (Int32.ofInt (rank : Int))]) (rest := []) (d2 := 0) dX12_doGreater_84 tk.1 zc_beginScan zc_beginScan_s rfl rfl rfl (Nat.le_of_ble_eq_true rfl) (Nat.le_of_ble_eq_true rfl) (by decide) (tm_beginScan tk.1 tk.2.2.2.1 (by omega) (by omega)) (fun r h1 hq => ?_)
        obtain ⟨rfl, F1, ha, hf', hs, hF'⟩ := hq
        have tk := tk_sc tk ha hs hF'
        have hf := hf.tr hf'
        have hF := hF.tr (tk_F.sc hF')
        refine mm_aload_n dX12_doGreater_87 rfl 0 rfl ?_
        refine mm_iload_n dX12_doGreater_88 rfl 1 rfl ?_
        refine mm_iload_n dX12_doGreater_89 rfl 2 rfl ?_
        refine mm_iload_n dX12_doGreater_90 rfl 3 rfl ?_
        refine rm_callV (As := [.int (nI (k)), .int (nI (a)), .int (nI (b))]) (rest := []) (d2 := 2) dX12_doGreater_91 tk.1 zc_scanThirds zc_scanThirds_s rfl rfl rfl (Nat.le_of_ble_eq_true rfl) (Nat.le_of_ble_eq_true rfl) (by decide) (tm_scanThirds tk.1 tk.2.1 hs (by omega) (by omega) (by omega) rfl) (fun r h1 hq => ?_)
        obtain ⟨rfl, F1, ha, hf', hs, hF'⟩ := hq
        have tk := tk_sc tk ha hs hF'
        have hf := hf.tr hf'
        have hF := hF.tr (tk_F.sc hF')
        obtain ⟨e, q, hpk⟩ := hpk (by omega) (by rintro ⟨z1, z2⟩; simp_all)
        have hsp := sc_pick _ 0 rank S.2.2.2 e q (by omega) hpk
        rw [show ((0 + rank : Nat) : Int) = (rank : Int) from by omega] at hsp
        obtain ⟨S1, eS1⟩ : ∃ S1, S1 = List.foldl sc_step (0, (rank : Int), false, S.2.2.2) (sp_thirds w k a b) := ⟨_, rfl⟩
        rw [← eS1] at tk hs hsp
        refine mm_aload_n dX12_doGreater_94 rfl 0 rfl ?_
        refine mm_iload_n dX12_doGreater_95 rfl 1 rfl ?_
        refine mm_iload_n dX12_doGreater_96 rfl 2 rfl ?_
        refine mm_iload_n dX12_doGreater_97 rfl 3 rfl ?_
        refine rm_callV (As := [.int (nI (k)), .int (nI (a)), .int (nI (b))]) (rest := []) (d2 := 1) dX12_doGreater_98 tk.1 zc_doThirds zc_doThirds_s rfl rfl rfl (Nat.le_of_ble_eq_true rfl) (Nat.le_of_ble_eq_true rfl) (by decide) (tm_doThirds tk (by omega) (by omega)) (fun r h1 hq => ?_)
        obtain ⟨rfl, F1, A1, tk, hf', hF', hA'⟩ := hq
        have hf := hf.tr hf'
        have hF := hF.tr hF'
        have hA := hA.tr hA'
        exact mm_vret dX12_doGreater_101 rfl (⟨rfl, _, _, _, by rw [show op_g w sg k a b rank P = op_3 k a b S1.2.2.2.2.1 S1.2.2.2.2.2.1 P from by unfold op_g; rw [if_neg (by omega), if_neg (by rintro ⟨z1, z2⟩; simp_all), hpk, hsp]]; exact tk, hf, hF, hA⟩)
      · rw [show op_g w sg k a b rank P = op_l a (fl_ sg k + fl_ sg k / 2) (op_t 18 P) from by unfold op_g; rw [if_neg (by omega), if_pos ⟨c42, c51⟩]]
        refine mm_aload_n dX12_doGreater_54 rfl 0 rfl ?_
        refine mm_bipush (v := nI 18) dX12_doGreater_55 (by decide) ?_
        refine rm_callV (As := [.int (nI (18))]) (rest := []) (d2 := 0) dX12_doGreater_57 tk.1 zc_tell zc_tell_s rfl rfl rfl (Nat.le_of_ble_eq_true rfl) (Nat.le_of_ble_eq_true rfl) (by decide) (tm_tell tk (by (try simp only [op_t, op_p, op_l, op_3, List.length_append, List.length_cons, List.length_nil]); omega) (by omega)) (fun r h1 hq => ?_)
        obtain ⟨rfl, F1, A1, tk, hf', hF', hA'⟩ := hq
        have hf := hf.tr hf'
        have hF := hF.tr hF'
        have hA := hA.tr hA'
        refine mm_aload_n dX12_doGreater_60 rfl 0 rfl ?_
        refine mm_iload_n dX12_doGreater_61 rfl 2 rfl ?_
        refine mm_aload_n dX12_doGreater_62 rfl 0 rfl ?_
        refine mm_iload_n dX12_doGreater_63 rfl 1 rfl ?_
        refine rm_callVr (As := [.int (nI (k))]) (rest := [.int (nI (a)), .ref (o)]) (d2 := 2) dX12_doGreater_64 tk.1 zc_full zc_full_s rfl rfl rfl (Nat.le_of_ble_eq_true rfl) (Nat.le_of_ble_eq_true rfl) (by decide) (tm_full tk.1 tk.2.1 (by omega)) ?_
        have fb67 := fl_b sg tk.2.1.2.1.2 (k) (by omega)
        refine mm_aload_n dX12_doGreater_67 rfl 0 rfl ?_
        refine mm_iload_n dX12_doGreater_68 rfl 1 rfl ?_
        refine rm_callVr (As := [.int (nI (k))]) (rest := [.int (nI (fl_ sg (k))), .int (nI (a)), .ref (o)]) (d2 := 2) dX12_doGreater_69 tk.1 zc_full zc_full_s rfl rfl rfl (Nat.le_of_ble_eq_true rfl) (Nat.le_of_ble_eq_true rfl) (by decide) (tm_full tk.1 tk.2.1 (by omega)) ?_
        have fb72 := fl_b sg tk.2.1.2.1.2 (k) (by omega)
        refine mm_iconst (v := nI 2) dX12_doGreater_72 (by decide) ?_
        refine mn_idiv dX12_doGreater_73 (by omega) (by omega) (by omega) ?_
        refine mn_iadd dX12_doGreater_74 ?_
        refine rm_callV (As := [.int (nI (a)), .int (nI ((fl_ sg (k)) + ((fl_ sg (k)) / (2))))]) (rest := []) (d2 := 0) dX12_doGreater_75 tk.1 zc_last zc_last_s rfl rfl rfl (Nat.le_of_ble_eq_true rfl) (Nat.le_of_ble_eq_true rfl) (by decide) (tm_last tk (by omega)) (fun r h1 hq => ?_)
        obtain ⟨rfl, F1, A1, tk, hf', hF', hA'⟩ := hq
        have hf := hf.tr hf'
        have hF := hF.tr hF'
        have hA := hA.tr hA'
        refine mm_goto (tgt := 101) dX12_doGreater_78 (by decide) ?_
        exact mm_vret dX12_doGreater_101 rfl (⟨rfl, _, _, _, tk, hf, hF, hA⟩)
  · refine mm_aload_n dX12_doGreater_7 rfl 0 rfl ?_
    refine mm_aload_n dX12_doGreater_8 rfl 0 rfl ?_
    refine mm_iload_n dX12_doGreater_9 rfl 2 rfl ?_
    refine mm_iload_n dX12_doGreater_10 rfl 1 rfl ?_
    refine rm_callVr (As := [.int (nI (a)), .int (nI (k))]) (rest := [.ref (o)]) (d2 := 0) dX12_doGreater_11 tk.1 zc_isRest zc_isRest_s rfl rfl rfl (Nat.le_of_ble_eq_true rfl) (Nat.le_of_ble_eq_true rfl) (by decide) (tm_isRest tk.1 tk.2.1.1 (by omega) (by omega)) ?_
    refine mn_ifB_eq (tgt := 21) dX12_doGreater_14 (by decide) (fun c14 => ?_) (fun c14 => ?_)
    · rw [show op_g w sg k a b rank P = op_l a (fl_ sg k) (op_t 1 P) from by unfold op_g; rw [if_pos c4, if_neg (by rw [c14]; decide)]]
      refine mm_iconst (v := nI 1) dX12_doGreater_21 (by decide) ?_
      refine rm_callV (As := [.int (nI (1))]) (rest := []) (d2 := 0) dX12_doGreater_22 tk.1 zc_tell zc_tell_s rfl rfl rfl (Nat.le_of_ble_eq_true rfl) (Nat.le_of_ble_eq_true rfl) (by decide) (tm_tell tk (by (try simp only [op_t, op_p, op_l, op_3, List.length_append, List.length_cons, List.length_nil]); omega) (by omega)) (fun r h1 hq => ?_)
      obtain ⟨rfl, F1, A1, tk, hf', hF', hA'⟩ := hq
      have hf := hf.tr hf'
      have hF := hF.tr hF'
      have hA := hA.tr hA'
      refine mm_aload_n dX12_doGreater_25 rfl 0 rfl ?_
      refine mm_iload_n dX12_doGreater_26 rfl 2 rfl ?_
      refine mm_aload_n dX12_doGreater_27 rfl 0 rfl ?_
      refine mm_iload_n dX12_doGreater_28 rfl 1 rfl ?_
      refine rm_callVr (As := [.int (nI (k))]) (rest := [.int (nI (a)), .ref (o)]) (d2 := 2) dX12_doGreater_29 tk.1 zc_full zc_full_s rfl rfl rfl (Nat.le_of_ble_eq_true rfl) (Nat.le_of_ble_eq_true rfl) (by decide) (tm_full tk.1 tk.2.1 (by omega)) ?_
      have fb32 := fl_b sg tk.2.1.2.1.2 (k) (by omega)
      refine rm_callV (As := [.int (nI (a)), .int (nI (fl_ sg (k)))]) (rest := []) (d2 := 0) dX12_doGreater_32 tk.1 zc_last zc_last_s rfl rfl rfl (Nat.le_of_ble_eq_true rfl) (Nat.le_of_ble_eq_true rfl) (by decide) (tm_last tk (by omega)) (fun r h1 hq => ?_)
      obtain ⟨rfl, F1, A1, tk, hf', hF', hA'⟩ := hq
      have hf := hf.tr hf'
      have hF := hF.tr hF'
      have hA := hA.tr hA'
      refine mm_goto (tgt := 101) dX12_doGreater_35 (by decide) ?_
      exact mm_vret dX12_doGreater_101 rfl (⟨rfl, _, _, _, tk, hf, hF, hA⟩)
    · rw [show op_g w sg k a b rank P = op_l a (fl_ sg k) (op_t 2 P) from by unfold op_g; rw [if_pos c4, if_pos c14]]
      refine mm_iconst (v := nI 2) dX12_doGreater_17 (by decide) ?_
      refine mm_goto (tgt := 22) dX12_doGreater_18 (by decide) ?_
      refine rm_callV (As := [.int (nI (2))]) (rest := []) (d2 := 0) dX12_doGreater_22 tk.1 zc_tell zc_tell_s rfl rfl rfl (Nat.le_of_ble_eq_true rfl) (Nat.le_of_ble_eq_true rfl) (by decide) (tm_tell tk (by (try simp only [op_t, op_p, op_l, op_3, List.length_append, List.length_cons, List.length_nil]); omega) (by omega)) (fun r h1 hq => ?_)
      obtain ⟨rfl, F1, A1, tk, hf', hF', hA'⟩ := hq
      have hf := hf.tr hf'
      have hF := hF.tr hF'
      have hA := hA.tr hA'
      refine mm_aload_n dX12_doGreater_25 rfl 0 rfl ?_
      refine mm_iload_n dX12_doGreater_26 rfl 2 rfl ?_
      refine mm_aload_n dX12_doGreater_27 rfl 0 rfl ?_
      refine mm_iload_n dX12_doGreater_28 rfl 1 rfl ?_
      refine rm_callVr (As := [.int (nI (k))]) (rest := [.int (nI (a)), .ref (o)]) (d2 := 2) dX12_doGreater_29 tk.1 zc_full zc_full_s rfl rfl rfl (Nat.le_of_ble_eq_true rfl) (Nat.le_of_ble_eq_true rfl) (by decide) (tm_full tk.1 tk.2.1 (by omega)) ?_
      have fb32 := fl_b sg tk.2.1.2.1.2 (k) (by omega)
      refine rm_callV (As := [.int (nI (a)), .int (nI (fl_ sg (k)))]) (rest := []) (d2 := 0) dX12_doGreater_32 tk.1 zc_last zc_last_s rfl rfl rfl (Nat.le_of_ble_eq_true rfl) (Nat.le_of_ble_eq_true rfl) (by decide) (tm_last tk (by omega)) (fun r h1 hq => ?_)
      obtain ⟨rfl, F1, A1, tk, hf', hF', hA'⟩ := hq
      have hf := hf.tr hf'
      have hF := hF.tr hF'
      have hA := hA.tr hA'
      refine mm_goto (tgt := 101) dX12_doGreater_35 (by decide) ?_
      exact mm_vret dX12_doGreater_101 rfl (⟨rfl, _, _, _, tk, hf, hF, hA⟩)
set_option maxRecDepth 100000 in
set_option maxHeartbeats 4000000 in
theorem tm_doPair {l : Launch} {D : va_G} {aa : Nat → ClassId} {b0 : Nat} {h : mm_H} {o : Nat} {F : Nat → Int32} {G : Nat → Int64} {A : Nat → Nat → Int32} {B : Nat → Nat → Int64} {w : ro_w} {sg g : Nat} {T I : Nat → Nat} {rd : Nat} {S : sc_S} {P : tk_P} (tk : tk_at o F G A B h w sg g T I rd S P) {k a b rank : Nat} (hk : k < 7) (hab : a < b) (hb : b ≤ 24) (hrk : rank < 3000) {e : sc_O} {q : Nat} (hpk : pk_ (sp_pair w sg T k a b) rank = some (e, q)) (hl1 : P.1.length + 4 ≤ 400) (hl2 : P.2.1.length + 1 ≤ 120) : mm_V (zz_K l D aa b0) 4 yX12_doPair cX12_doPair 5 none 0 [(0, .ref (o)), (1, .int (nI (k))), (2, .int (nI (a))), (3, .int (nI (b))), (4, .int (nI (rank)))] [] h 0 0 (fun r h' => r = none ∧ ∃ (F' : Nat → Int32) (A' : Nat → Nat → Int32) (S' : sc_S), tk_at o F' G A' B h' w sg g T I rd S' (op_pr sg k a b e q P) ∧ rm_fr o h h' ∧ tk_F F F' ∧ tk_A rd A A') := by
  have hf : rm_fr o h h := rm_fr.rf
  have hF : tk_F F F := tk_F.rf
  have hA : tk_A rd A A := tk_A.rf
  obtain ⟨hmem, hq, hqr⟩ := pk_mem _ _ _ _ hpk
  refine mm_aload_n dX12_doPair_0 rfl 0 rfl ?_
  refine mm_iload dX12_doPair_1 4 rfl ?_
  refine mn_top (u := .int (Int32.ofInt (rank : Int))) (by rfl) ?_
  refine rm_callV (As := [.int (Int32.ofInt (rank : Int))]) (rest := []) (d2 := 0) dX12_doPair_3 tk.1 zc_beginScan zc_beginScan_s rfl rfl rfl (Nat.le_of_ble_eq_true rfl) (Nat.le_of_ble_eq_true rfl) (by decide) (tm_beginScan tk.1 tk.2.2.2.1 (by omega) (by omega)) (fun r h1 hq => ?_)
  obtain ⟨rfl, F1, ha, hf', hs, hF'⟩ := hq
  have tk := tk_sc tk ha hs hF'
  have hf := hf.tr hf'
  have hF := hF.tr (tk_F.sc hF')
  refine mm_aload_n dX12_doPair_6 rfl 0 rfl ?_
  refine mm_iload_n dX12_doPair_7 rfl 1 rfl ?_
  refine mm_iload_n dX12_doPair_8 rfl 2 rfl ?_
  refine mm_iload_n dX12_doPair_9 rfl 3 rfl ?_
  refine rm_callV (As := [.int (nI (k)), .int (nI (a)), .int (nI (b))]) (rest := []) (d2 := 3) dX12_doPair_10 tk.1 zc_scanPair zc_scanPair_s rfl rfl rfl (Nat.le_of_ble_eq_true rfl) (Nat.le_of_ble_eq_true rfl) (by decide) (tm_scanPair tk.1 tk.2.1 hs (by omega) (by omega) (by omega) rfl) (fun r h1 hq => ?_)
  obtain ⟨rfl, F1, ha, hf', hs, hF'⟩ := hq
  have tk := tk_sc tk ha hs hF'
  have hf := hf.tr hf'
  have hF := hF.tr (tk_F.sc hF')
  have hsp := sc_pick _ 0 rank S.2.2.2 e q (by omega) hpk
  rw [show ((0 + rank : Nat) : Int) = (rank : Int) from by omega] at hsp
  obtain ⟨S1, eS1⟩ : ∃ S1, S1 = List.foldl sc_step (0, (rank : Int), false, S.2.2.2) (sp_pair w sg T k a b) := ⟨_, rfl⟩
  rw [← eS1] at tk hs hsp
  obtain ⟨c1, x1⟩ := S1
  dsimp only at hsp
  subst hsp
  clear eS1 hs
  have hinv : (e.1 = 15) ∨ (e.1 = 13 ∧ k < 6 ∧ a + 2 ≤ b) ∨ (e.1 = 14 ∧ k < 6 ∧ a + 2 < b) := by
    unfold sp_pair at hmem
    rcases List.mem_append.mp hmem with hm | hm
    · by_cases hc : sp_perf sg k = false ∧ k < 6
      · rw [if_pos hc] at hm
        rcases List.mem_append.mp hm with hm | hm
        · by_cases hd : ro_plain w a k = true ∧ ro_dot w (a + 1) = true
          · rw [if_pos hd] at hm
            rw [List.mem_singleton] at hm
            subst hm
            refine Or.inr (Or.inl ⟨rfl, hc.2, ?_⟩)
            rcases Nat.lt_or_ge b (a + 2) with z | z
            · have : tb_w T 0 (k + 1) (a + 2) b = 0 := if_pos (by omega)
              dsimp only at hq
              omega
            · exact z
          · rw [if_neg hd] at hm; cases hm
        · by_cases hd : a + 2 < b ∧ ro_plain w (b - 2) k = true ∧ ro_dot w (b - 1) = true
          · rw [if_pos hd] at hm
            rw [List.mem_singleton] at hm
            subst hm
            exact Or.inr (Or.inr ⟨rfl, hc.2, hd.1⟩)
          · rw [if_neg hd] at hm; cases hm
      · rw [if_neg hc] at hm; cases hm
    · obtain ⟨m, p, -, -, -, rfl⟩ := th_inv hm
      exact Or.inl rfl
  have he1 : e.1 < 20 := by omega
  refine mm_aload_n dX12_doPair_13 rfl 0 rfl ?_
  refine rm_getI 24 dX12_doPair_14 tk.1 zf_takenForm (by decide) rfl rfl ?_
  refine mn_top (u := .int (nI (e.1))) (congrArg Value.int ((tk.2.2.2.1.2.2.2.1))) ?_
  refine mm_bipush (v := nI 15) dX12_doPair_17 (by decide) ?_
  refine mn_icmp_ne (tgt := 30) dX12_doPair_19 (by decide) (by omega) (by omega) (fun c19 => ?_) (fun c19 => ?_)
  · refine mm_aload_n dX12_doPair_30 rfl 0 rfl ?_
    refine mm_aload_n dX12_doPair_31 rfl 0 rfl ?_
    refine rm_getI 24 dX12_doPair_32 tk.1 zf_takenForm (by decide) rfl rfl ?_
    refine mn_top (u := .int (nI (e.1))) (congrArg Value.int ((tk.2.2.2.1.2.2.2.1))) ?_
    refine rm_callV (As := [.int (nI (e.1))]) (rest := []) (d2 := 0) dX12_doPair_35 tk.1 zc_tell zc_tell_s rfl rfl rfl (Nat.le_of_ble_eq_true rfl) (Nat.le_of_ble_eq_true rfl) (by decide) (tm_tell tk (by (try simp only [op_t, op_p, op_l, op_3, List.length_append, List.length_cons, List.length_nil]); omega) (by omega)) (fun r h1 hq => ?_)
    obtain ⟨rfl, F1, A1, tk, hf', hF', hA'⟩ := hq
    have hf := hf.tr hf'
    have hF := hF.tr hF'
    have hA := hA.tr hA'
    refine mm_aload_n dX12_doPair_38 rfl 0 rfl ?_
    refine rm_getI 24 dX12_doPair_39 tk.1 zf_takenForm (by decide) rfl rfl ?_
    refine mn_top (u := .int (nI (e.1))) (congrArg Value.int ((tk.2.2.2.1.2.2.2.1))) ?_
    refine mm_bipush (v := nI 13) dX12_doPair_42 (by decide) ?_
    refine mn_icmp_ne (tgt := 80) dX12_doPair_44 (by decide) (by omega) (by omega) (fun c44 => ?_) (fun c44 => ?_)
    · rw [show op_pr sg k a b e q P = op_p (0, k + 1, a, b - 2, q) (op_l (b - 2) (3 * fl_ sg (k + 1)) (op_t e.1 P)) from by unfold op_pr; rw [if_neg c19, if_neg c44, show e.1 = 14 from by omega]]
      refine mm_aload_n dX12_doPair_80 rfl 0 rfl ?_
      refine mm_iload_n dX12_doPair_81 rfl 3 rfl ?_
      refine mm_iconst (v := nI 2) dX12_doPair_82 (by decide) ?_
      refine mn_isub dX12_doPair_83 (by omega) ?_
      refine mm_iconst (v := nI 3) dX12_doPair_84 (by decide) ?_
      refine mm_aload_n dX12_doPair_85 rfl 0 rfl ?_
      refine mm_iload_n dX12_doPair_86 rfl 1 rfl ?_
      refine mm_iconst (v := nI 1) dX12_doPair_87 (by decide) ?_
      refine mn_iadd dX12_doPair_88 ?_
      refine rm_callVr (As := [.int (nI ((k) + (1)))]) (rest := [.int (nI (3)), .int (nI ((b) - (2))), .ref (o)]) (d2 := 2) dX12_doPair_89 tk.1 zc_full zc_full_s rfl rfl rfl (Nat.le_of_ble_eq_true rfl) (Nat.le_of_ble_eq_true rfl) (by decide) (tm_full tk.1 tk.2.1 (by omega)) ?_
      have fb92 := fl_b sg tk.2.1.2.1.2 ((k) + (1)) (by omega)
      refine mn_imul dX12_doPair_92 ?_
      refine rm_callV (As := [.int (nI ((b) - (2))), .int (nI ((3) * (fl_ sg ((k) + (1)))))]) (rest := []) (d2 := 0) dX12_doPair_93 tk.1 zc_last zc_last_s rfl rfl rfl (Nat.le_of_ble_eq_true rfl) (Nat.le_of_ble_eq_true rfl) (by decide) (tm_last tk (by omega)) (fun r h1 hq => ?_)
      obtain ⟨rfl, F1, A1, tk, hf', hF', hA'⟩ := hq
      have hf := hf.tr hf'
      have hF := hF.tr hF'
      have hA := hA.tr hA'
      refine mm_aload_n dX12_doPair_96 rfl 0 rfl ?_
      refine mm_iconst (v := nI 0) dX12_doPair_97 (by decide) ?_
      refine mm_iload_n dX12_doPair_98 rfl 1 rfl ?_
      refine mm_iconst (v := nI 1) dX12_doPair_99 (by decide) ?_
      refine mn_iadd dX12_doPair_100 ?_
      refine mm_iload_n dX12_doPair_101 rfl 2 rfl ?_
      refine mm_iload_n dX12_doPair_102 rfl 3 rfl ?_
      refine mm_iconst (v := nI 2) dX12_doPair_103 (by decide) ?_
      refine mn_isub dX12_doPair_104 (by omega) ?_
      refine mm_aload_n dX12_doPair_105 rfl 0 rfl ?_
      refine rm_getI 28 dX12_doPair_106 tk.1 zf_takenRank (by decide) rfl rfl ?_
      refine mn_top (u := .int (nI (q))) (congrArg Value.int ((tk.2.2.2.1.2.2.2.2.2.2.2.1))) ?_
      refine rm_callV (As := [.int (nI (0)), .int (nI ((k) + (1))), .int (nI (a)), .int (nI ((b) - (2))), .int (nI (q))]) (rest := []) (d2 := 0) dX12_doPair_109 tk.1 zc_push zc_push_s rfl rfl rfl (Nat.le_of_ble_eq_true rfl) (Nat.le_of_ble_eq_true rfl) (by decide) (tm_push tk (by (try simp only [op_t, op_p, op_l, op_3, List.length_append, List.length_cons, List.length_nil]); omega)) (fun r h1 hq => ?_)
      obtain ⟨rfl, F1, A1, tk, hf', hF', hA'⟩ := hq
      have hf := hf.tr hf'
      have hF := hF.tr hF'
      have hA := hA.tr hA'
      exact mm_vret dX12_doPair_112 rfl (⟨rfl, _, _, _, tk, hf, hF, hA⟩)
    · rw [show op_pr sg k a b e q P = op_p (0, k + 1, a + 2, b, q) (op_l a (3 * fl_ sg (k + 1)) (op_t e.1 P)) from by unfold op_pr; rw [if_neg c19, if_pos c44, c44]]
      refine mm_aload_n dX12_doPair_47 rfl 0 rfl ?_
      refine mm_iload_n dX12_doPair_48 rfl 2 rfl ?_
      refine mm_iconst (v := nI 3) dX12_doPair_49 (by decide) ?_
      refine mm_aload_n dX12_doPair_50 rfl 0 rfl ?_
      refine mm_iload_n dX12_doPair_51 rfl 1 rfl ?_
      refine mm_iconst (v := nI 1) dX12_doPair_52 (by decide) ?_
      refine mn_iadd dX12_doPair_53 ?_
      refine rm_callVr (As := [.int (nI ((k) + (1)))]) (rest := [.int (nI (3)), .int (nI (a)), .ref (o)]) (d2 := 2) dX12_doPair_54 tk.1 zc_full zc_full_s rfl rfl rfl (Nat.le_of_ble_eq_true rfl) (Nat.le_of_ble_eq_true rfl) (by decide) (tm_full tk.1 tk.2.1 (by omega)) ?_
      have fb57 := fl_b sg tk.2.1.2.1.2 ((k) + (1)) (by omega)
      refine mn_imul dX12_doPair_57 ?_
      refine rm_callV (As := [.int (nI (a)), .int (nI ((3) * (fl_ sg ((k) + (1)))))]) (rest := []) (d2 := 0) dX12_doPair_58 tk.1 zc_last zc_last_s rfl rfl rfl (Nat.le_of_ble_eq_true rfl) (Nat.le_of_ble_eq_true rfl) (by decide) (tm_last tk (by omega)) (fun r h1 hq => ?_)
      obtain ⟨rfl, F1, A1, tk, hf', hF', hA'⟩ := hq
      have hf := hf.tr hf'
      have hF := hF.tr hF'
      have hA := hA.tr hA'
      refine mm_aload_n dX12_doPair_61 rfl 0 rfl ?_
      refine mm_iconst (v := nI 0) dX12_doPair_62 (by decide) ?_
      refine mm_iload_n dX12_doPair_63 rfl 1 rfl ?_
      refine mm_iconst (v := nI 1) dX12_doPair_64 (by decide) ?_
      refine mn_iadd dX12_doPair_65 ?_
      refine mm_iload_n dX12_doPair_66 rfl 2 rfl ?_
      refine mm_iconst (v := nI 2) dX12_doPair_67 (by decide) ?_
      refine mn_iadd dX12_doPair_68 ?_
      refine mm_iload_n dX12_doPair_69 rfl 3 rfl ?_
      refine mm_aload_n dX12_doPair_70 rfl 0 rfl ?_
      refine rm_getI 28 dX12_doPair_71 tk.1 zf_takenRank (by decide) rfl rfl ?_
      refine mn_top (u := .int (nI (q))) (congrArg Value.int ((tk.2.2.2.1.2.2.2.2.2.2.2.1))) ?_
      refine rm_callV (As := [.int (nI (0)), .int (nI ((k) + (1))), .int (nI ((a) + (2))), .int (nI (b)), .int (nI (q))]) (rest := []) (d2 := 0) dX12_doPair_74 tk.1 zc_push zc_push_s rfl rfl rfl (Nat.le_of_ble_eq_true rfl) (Nat.le_of_ble_eq_true rfl) (by decide) (tm_push tk (by (try simp only [op_t, op_p, op_l, op_3, List.length_append, List.length_cons, List.length_nil]); omega)) (fun r h1 hq => ?_)
      obtain ⟨rfl, F1, A1, tk, hf', hF', hA'⟩ := hq
      have hf := hf.tr hf'
      have hF := hF.tr hF'
      have hA := hA.tr hA'
      refine mm_goto (tgt := 112) dX12_doPair_77 (by decide) ?_
      exact mm_vret dX12_doPair_112 rfl (⟨rfl, _, _, _, tk, hf, hF, hA⟩)
  · rw [show op_pr sg k a b e q P = op_3 k a b e.2.1 e.2.2.1 P from if_pos c19]
    refine mm_aload_n dX12_doPair_22 rfl 0 rfl ?_
    refine mm_iload_n dX12_doPair_23 rfl 1 rfl ?_
    refine mm_iload_n dX12_doPair_24 rfl 2 rfl ?_
    refine mm_iload_n dX12_doPair_25 rfl 3 rfl ?_
    refine rm_callV (As := [.int (nI (k)), .int (nI (a)), .int (nI (b))]) (rest := []) (d2 := 1) dX12_doPair_26 tk.1 zc_doThirds zc_doThirds_s rfl rfl rfl (Nat.le_of_ble_eq_true rfl) (Nat.le_of_ble_eq_true rfl) (by decide) (tm_doThirds tk (by omega) (by omega)) (fun r h1 hq => ?_)
    obtain ⟨rfl, F1, A1, tk, hf', hF', hA'⟩ := hq
    have hf := hf.tr hf'
    have hF := hF.tr hF'
    have hA := hA.tr hA'
    exact mm_vret dX12_doPair_29 rfl (⟨rfl, _, _, _, tk, hf, hF, hA⟩)
