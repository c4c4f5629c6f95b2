set_option maxRecDepth 100000 in
set_option maxHeartbeats 4000000 in
theorem tm_doUnit {l : Launch} {D : va_G} {aa : Nat → ClassId} {b0 : Nat} {h : mm_H} {o : Nat} {F : Nat → Int32} {G : Nat → Int64} {A : Nat → Nat → Int32} {B : Nat → Nat → Int64} {w : ro_w} {sg g : Nat} {T I : Nat → Nat} {rd : Nat} {S : sc_S} {P : tk_P} (tk : tk_at o F G A B h w sg g T I rd S P) {k a b rank : Nat} (hk : k < 7) (hab : a < b) (hb : b ≤ 24) (hrk : rank < 3000) {e : sc_O} {q : Nat} (hpk : pk_ (sp_unit w sg T k a b) rank = some (e, q)) (hl1 : P.1.length + 8 ≤ 400) (hl2 : P.2.1.length + 2 ≤ 120) : mm_V (zz_K l D aa b0) 4 yX12_doUnit cX12_doUnit 10 none 0 [(0, .ref (o)), (1, .int (nI (k))), (2, .int (nI (a))), (3, .int (nI (b))), (4, .int (nI (rank)))] [] h 0 0 (fun r h' => r = none ∧ ∃ (F' : Nat → Int32) (A' : Nat → Nat → Int32) (S' : sc_S), tk_at o F' G A' B h' w sg g T I rd S' (op_u sg T k a b e q P) ∧ rm_fr o h h' ∧ tk_F F F' ∧ tk_A rd A A') := by
  have hf : rm_fr o h h := rm_fr.rf
  have hF : tk_F F F := tk_F.rf
  have hA : tk_A rd A A := tk_A.rf
  obtain ⟨hmem, hq, hqr⟩ := pk_mem _ _ _ _ hpk
  have hinv := un_inv hab hmem hq
  refine mm_aload_n dX12_doUnit_0 rfl 0 rfl ?_
  refine mm_iload dX12_doUnit_1 4 rfl ?_
  refine mn_top (u := .int (Int32.ofInt (rank : Int))) (by rfl) ?_
  refine rm_callV (As := [.int (Int32.ofInt (rank : Int))]) (rest := []) (d2 := 0) dX12_doUnit_3 tk.1 zc_beginScan zc_beginScan_s rfl rfl rfl (Nat.le_of_ble_eq_true rfl) (Nat.le_of_ble_eq_true rfl) (by decide) (tm_beginScan tk.1 tk.2.2.2.1 (by omega) (by omega)) (fun r h1 hq => ?_)
  obtain ⟨rfl, F1, ha, hf', hs, hF'⟩ := hq
  have tk := tk_sc tk ha hs hF'
  have hf := hf.tr hf'
  have hF := hF.tr (tk_F.sc hF')
  refine mm_aload_n dX12_doUnit_6 rfl 0 rfl ?_
  refine mm_iload_n dX12_doUnit_7 rfl 1 rfl ?_
  refine mm_iload_n dX12_doUnit_8 rfl 2 rfl ?_
  refine mm_iload_n dX12_doUnit_9 rfl 3 rfl ?_
  refine rm_callV (As := [.int (nI (k)), .int (nI (a)), .int (nI (b))]) (rest := []) (d2 := 3) dX12_doUnit_10 tk.1 zc_scanUnit zc_scanUnit_s rfl rfl rfl (Nat.le_of_ble_eq_true rfl) (Nat.le_of_ble_eq_true rfl) (by decide) (tm_scanUnit tk.1 tk.2.1 hs (by omega) (by omega) (by omega) rfl) (fun r h1 hq => ?_)
  obtain ⟨rfl, F1, ha, hf', hs, hF'⟩ := hq
  have tk := tk_sc tk ha hs hF'
  have hf := hf.tr hf'
  have hF := hF.tr (tk_F.sc hF')
  have hsp := sc_pick _ 0 rank S.2.2.2 e q (by omega) hpk
  rw [show ((0 + rank : Nat) : Int) = (rank : Int) from by omega] at hsp
  obtain ⟨S1, eS1⟩ : ∃ S1, S1 = List.foldl sc_step (0, (rank : Int), false, S.2.2.2) (sp_unit w sg T k a b) := ⟨_, rfl⟩
  rw [← eS1] at tk hs hsp
  obtain ⟨c1, x1⟩ := S1
  dsimp only at hsp
  subst hsp
  clear eS1 hs
  have hfe : e.1 < 20 := by unfold un_v at hinv; omega
  refine mm_aload_n dX12_doUnit_13 rfl 0 rfl ?_
  refine rm_getI 24 dX12_doUnit_14 tk.1 zf_takenForm (by decide) rfl rfl ?_
  refine mn_top (u := .int (nI (e.1))) (congrArg Value.int ((tk.2.2.2.1.2.2.2.1))) ?_
  refine mm_istore (L' := [(5, .int (nI (e.1))), (0, .ref (o)), (1, .int (nI (k))), (2, .int (nI (a))), (3, .int (nI (b))), (4, .int (nI (rank)))]) dX12_doUnit_17 (by decide) rfl ?_
  refine mm_aload_n dX12_doUnit_19 rfl 1 rfl ?_
  refine rm_getI 27 dX12_doUnit_20 tk.1 zf_takenDot (by decide) rfl rfl ?_
  refine mn_top (u := .int (nI (Bool.toNat (e.2.2.2.1)))) (congrArg Value.int ((tk.2.2.2.1.2.2.2.2.2.2.1))) ?_
  refine mn_ifB_eq (tgt := 32) dX12_doUnit_23 (by decide) (fun c23 => ?_) (fun c23 => ?_)
  · rw [show op_u sg T k a b e q P = op_v sg T k a (b) e.1 e.2.1 e.2.2.1 q (op_t e.1 P) from by unfold op_u; rw [if_neg (by rw [c23]; decide), if_neg (by rw [c23]; decide)]]
    rw [if_neg (by rw [c23]; decide)] at hinv
    refine mm_iload_n dX12_doUnit_32 rfl 4 rfl ?_
    refine mm_istore (L' := [(6, .int (nI (b))), (5, .int (nI (e.1))), (0, .ref (o)), (1, .int (nI (k))), (2, .int (nI (a))), (3, .int (nI (b))), (4, .int (nI (rank)))]) dX12_doUnit_33 (by decide) rfl ?_
    refine mm_aload_n dX12_doUnit_35 rfl 2 rfl ?_
    refine mm_iload dX12_doUnit_36 1 rfl ?_
    refine rm_callV (As := [.int (nI (e.1))]) (rest := []) (d2 := 0) dX12_doUnit_38 tk.1 zc_tell zc_tell_s rfl rfl rfl (Nat.le_of_ble_eq_true rfl) (Nat.le_of_ble_eq_true rfl) (by decide) (tm_tell tk (by (try simp only [op_t, op_p, op_l, op_3, List.length_append, List.length_cons, List.length_nil]); omega) (by omega)) (fun r h1 hq => ?_)
    obtain ⟨rfl, F1, A1, tk, hf', hF', hA'⟩ := hq
    have hf := hf.tr hf'
    have hF := hF.tr hF'
    have hA := hA.tr hA'
    refine mm_aload_n dX12_doUnit_41 rfl 2 rfl ?_
    refine rm_getI 27 dX12_doUnit_42 tk.1 zf_takenDot (by decide) rfl rfl ?_
    refine mn_top (u := .int (nI (Bool.toNat (e.2.2.2.1)))) (congrArg Value.int ((tk.2.2.2.1.2.2.2.2.2.2.1))) ?_
    refine mn_ifB_eq (tgt := 58) dX12_doUnit_45 (by decide) (fun c45 => ?_) (fun c45 => ?_)
    · refine mm_aload_n dX12_doUnit_58 rfl 2 rfl ?_
      refine rm_getI 25 dX12_doUnit_59 tk.1 zf_takenCut (by decide) rfl rfl ?_
      refine mn_top (u := .int (nI (e.2.1))) (congrArg Value.int ((tk.2.2.2.1.2.2.2.2.1))) ?_
      refine mm_istore (L' := [(7, .int (nI (e.2.1))), (6, .int (nI (b))), (5, .int (nI (e.1))), (0, .ref (o)), (1, .int (nI (k))), (2, .int (nI (a))), (3, .int (nI (b))), (4, .int (nI (rank)))]) dX12_doUnit_62 (by decide) rfl ?_
      refine mm_iload dX12_doUnit_64 2 rfl ?_
      have hto : b ≤ 24 := by omega
      rcases hinv with ⟨v1, v2⟩ | ⟨v1, v2, v3, v4, v5, v6⟩ | ⟨v1, v2⟩ | ⟨v1, v2, v3, v4, v5, v6, v7, v8⟩ | ⟨v1, v2, v3⟩ | ⟨v1, v2, v3, v4⟩ | ⟨v1, v2, v3, v4, v5, v6⟩ | ⟨v1, v2, v3, v4, v5, v6⟩
      · rcases (show e.1 = 1 ∨ e.1 = 2 ∨ e.1 = 3 from by omega) with v3 | v3 | v3
        · rw [op_v1 v3]
          refine mn_top (u := .int (nI (1))) (congrArg Value.int (congrArg nI (v3))) ?_
          refine mm_tableIn (tgt := 120) (off := 54) dX12_doUnit_66 (by decide) (by decide) (by decide) (by decide) ?_
          refine mm_aload_n dX12_doUnit_120 rfl 3 rfl ?_
          refine mm_iload_n dX12_doUnit_121 rfl 5 rfl ?_
          refine mm_aload_n dX12_doUnit_122 rfl 3 rfl ?_
          refine mm_iload_n dX12_doUnit_123 rfl 4 rfl ?_
          refine rm_callVr (As := [.int (nI (k))]) (rest := [.int (nI (a)), .ref (o)]) (d2 := 2) dX12_doUnit_124 tk.1 zc_full zc_full_s rfl rfl rfl (Nat.le_of_ble_eq_true rfl) (Nat.le_of_ble_eq_true rfl) (by decide) (tm_full tk.1 tk.2.1 (by omega)) ?_
          have fb127 := fl_b sg tk.2.1.2.1.2 (k) (by omega)
          refine rm_callV (As := [.int (nI (a)), .int (nI (fl_ sg (k)))]) (rest := []) (d2 := 0) dX12_doUnit_127 tk.1 zc_last zc_last_s rfl rfl rfl (Nat.le_of_ble_eq_true rfl) (Nat.le_of_ble_eq_true rfl) (by decide) (tm_last tk (by omega)) (fun r h1 hq => ?_)
          obtain ⟨rfl, F1, A1, tk, hf', hF', hA'⟩ := hq
          have hf := hf.tr hf'
          have hF := hF.tr hF'
          have hA := hA.tr hA'
          refine mm_goto (tgt := 367) dX12_doUnit_130 (by decide) ?_
          exact mm_vret dX12_doUnit_367 rfl (⟨rfl, _, _, _, tk, hf, hF, hA⟩)
        · rw [op_v2 v3]
          refine mn_top (u := .int (nI (2))) (congrArg Value.int (congrArg nI (v3))) ?_
          refine mm_tableIn (tgt := 120) (off := 54) dX12_doUnit_66 (by decide) (by decide) (by decide) (by decide) ?_
          refine mm_aload_n dX12_doUnit_120 rfl 3 rfl ?_
          refine mm_iload_n dX12_doUnit_121 rfl 5 rfl ?_
          refine mm_aload_n dX12_doUnit_122 rfl 3 rfl ?_
          refine mm_iload_n dX12_doUnit_123 rfl 4 rfl ?_
          refine rm_callVr (As := [.int (nI (k))]) (rest := [.int (nI (a)), .ref (o)]) (d2 := 2) dX12_doUnit_124 tk.1 zc_full zc_full_s rfl rfl rfl (Nat.le_of_ble_eq_true rfl) (Nat.le_of_ble_eq_true rfl) (by decide) (tm_full tk.1 tk.2.1 (by omega)) ?_
          have fb127 := fl_b sg tk.2.1.2.1.2 (k) (by omega)
          refine rm_callV (As := [.int (nI (a)), .int (nI (fl_ sg (k)))]) (rest := []) (d2 := 0) dX12_doUnit_127 tk.1 zc_last zc_last_s rfl rfl rfl (Nat.le_of_ble_eq_true rfl) (Nat.le_of_ble_eq_true rfl) (by decide) (tm_last tk (by omega)) (fun r h1 hq => ?_)
          obtain ⟨rfl, F1, A1, tk, hf', hF', hA'⟩ := hq
          have hf := hf.tr hf'
          have hF := hF.tr hF'
          have hA := hA.tr hA'
          refine mm_goto (tgt := 367) dX12_doUnit_130 (by decide) ?_
          exact mm_vret dX12_doUnit_367 rfl (⟨rfl, _, _, _, tk, hf, hF, hA⟩)
        · rw [op_v3 v3]
          refine mn_top (u := .int (nI (3))) (congrArg Value.int (congrArg nI (v3))) ?_
          refine mm_tableIn (tgt := 120) (off := 54) dX12_doUnit_66 (by decide) (by decide) (by decide) (by decide) ?_
          refine mm_aload_n dX12_doUnit_120 rfl 3 rfl ?_
          refine mm_iload_n dX12_doUnit_121 rfl 5 rfl ?_
          refine mm_aload_n dX12_doUnit_122 rfl 3 rfl ?_
          refine mm_iload_n dX12_doUnit_123 rfl 4 rfl ?_
          refine rm_callVr (As := [.int (nI (k))]) (rest := [.int (nI (a)), .ref (o)]) (d2 := 2) dX12_doUnit_124 tk.1 zc_full zc_full_s rfl rfl rfl (Nat.le_of_ble_eq_true rfl) (Nat.le_of_ble_eq_true rfl) (by decide) (tm_full tk.1 tk.2.1 (by omega)) ?_
          have fb127 := fl_b sg tk.2.1.2.1.2 (k) (by omega)
          refine rm_callV (As := [.int (nI (a)), .int (nI (fl_ sg (k)))]) (rest := []) (d2 := 0) dX12_doUnit_127 tk.1 zc_last zc_last_s rfl rfl rfl (Nat.le_of_ble_eq_true rfl) (Nat.le_of_ble_eq_true rfl) (by decide) (tm_last tk (by omega)) (fun r h1 hq => ?_)
          obtain ⟨rfl, F1, A1, tk, hf', hF', hA'⟩ := hq
          have hf := hf.tr hf'
          have hF := hF.tr hF'
          have hA := hA.tr hA'
          refine mm_goto (tgt := 367) dX12_doUnit_130 (by decide) ?_
          exact mm_vret dX12_doUnit_367 rfl (⟨rfl, _, _, _, tk, hf, hF, hA⟩)
      · rw [op_v4 v1]
        refine mn_top (u := .int (nI (4))) (congrArg Value.int (congrArg nI (v1))) ?_
        refine mm_tableIn (tgt := 133) (off := 67) dX12_doUnit_66 (by decide) (by decide) (by decide) (by decide) ?_
        refine mm_aload_n dX12_doUnit_133 rfl 3 rfl ?_
        refine mm_iconst (v := nI 0) dX12_doUnit_134 (by decide) ?_
        refine mm_iload_n dX12_doUnit_135 rfl 5 rfl ?_
        refine mm_iload dX12_doUnit_136 0 rfl ?_
        refine mm_iconst (v := nI 0) dX12_doUnit_138 (by decide) ?_
        refine mm_iload dX12_doUnit_139 1 rfl ?_
        refine mm_iload_n dX12_doUnit_141 rfl 4 rfl ?_
        refine mm_iconst (v := nI 1) dX12_doUnit_142 (by decide) ?_
        refine mn_iadd dX12_doUnit_143 ?_
        refine rm_callV (As := [.int (nI (0)), .int (nI (a)), .int (nI (e.2.1)), .int (nI (0)), .int (nI (b)), .int (nI ((k) + (1)))]) (rest := []) (d2 := 1) dX12_doUnit_144 tk.1 zc_pushTwo zc_pushTwo_s rfl rfl rfl (Nat.le_of_ble_eq_true rfl) (Nat.le_of_ble_eq_true rfl) (by decide) (tm_pushTwo tk (by omega) (by omega) (by omega) (by omega) (by assumption) (by show q < 2 ^ 31; omega) (by (try simp only [op_t, op_p, op_l, op_3, List.length_append, List.length_cons, List.length_nil]); omega) (by (try simp only [op_t, op_p, op_l, op_3, List.length_append, List.length_cons, List.length_nil]); omega)) (fun r h1 hq => ?_)
        obtain ⟨rfl, F1, A1, tk, hf', hF', hA'⟩ := hq
        have hf := hf.tr hf'
        have hF := hF.tr hF'
        have hA := hA.tr hA'
        refine mm_goto (tgt := 367) dX12_doUnit_147 (by decide) ?_
        exact mm_vret dX12_doUnit_367 rfl (⟨rfl, _, _, _, tk, hf, hF, hA⟩)
      · rw [op_v5 v1]
        refine mn_top (u := .int (nI (5))) (congrArg Value.int (congrArg nI (v1))) ?_
        refine mm_tableIn (tgt := 150) (off := 84) dX12_doUnit_66 (by decide) (by decide) (by decide) (by decide) ?_
        refine mm_aload_n dX12_doUnit_150 rfl 3 rfl ?_
        refine mm_iconst (v := nI 1) dX12_doUnit_151 (by decide) ?_
        refine mm_iload_n dX12_doUnit_152 rfl 4 rfl ?_
        refine mm_iconst (v := nI 1) dX12_doUnit_153 (by decide) ?_
        refine mn_iadd dX12_doUnit_154 ?_
        refine mm_iload_n dX12_doUnit_155 rfl 5 rfl ?_
        refine mm_iload dX12_doUnit_156 1 rfl ?_
        refine mm_aload_n dX12_doUnit_158 rfl 3 rfl ?_
        refine rm_getI 28 dX12_doUnit_159 tk.1 zf_takenRank (by decide) rfl rfl ?_
        refine mn_top (u := .int (nI (q))) (congrArg Value.int ((tk.2.2.2.1.2.2.2.2.2.2.2.1))) ?_
        refine rm_callV (As := [.int (nI (1)), .int (nI ((k) + (1))), .int (nI (a)), .int (nI (b)), .int (nI (q))]) (rest := []) (d2 := 0) dX12_doUnit_162 tk.1 zc_push zc_push_s rfl rfl rfl (Nat.le_of_ble_eq_true rfl) (Nat.le_of_ble_eq_true rfl) (by decide) (tm_push tk (by (try simp only [op_t, op_p, op_l, op_3, List.length_append, List.length_cons, List.length_nil]); omega)) (fun r h1 hq => ?_)
        obtain ⟨rfl, F1, A1, tk, hf', hF', hA'⟩ := hq
        have hf := hf.tr hf'
        have hF := hF.tr hF'
        have hA := hA.tr hA'
        refine mm_goto (tgt := 367) dX12_doUnit_165 (by decide) ?_
        exact mm_vret dX12_doUnit_367 rfl (⟨rfl, _, _, _, tk, hf, hF, hA⟩)
      · rw [op_v6 v1]
        have dq := Nat.div_le_self q (tb_w T 0 (k + 1) e.2.2.1 (b))
        refine mn_top (u := .int (nI (6))) (congrArg Value.int (congrArg nI (v1))) ?_
        refine mm_tableIn (tgt := 168) (off := 102) dX12_doUnit_66 (by decide) (by decide) (by decide) (by decide) ?_
        refine mm_aload_n dX12_doUnit_168 rfl 3 rfl ?_
        refine mm_iconst (v := nI 0) dX12_doUnit_169 (by decide) ?_
        refine mm_iload_n dX12_doUnit_170 rfl 4 rfl ?_
        refine mm_iconst (v := nI 1) dX12_doUnit_171 (by decide) ?_
        refine mn_iadd dX12_doUnit_172 ?_
        refine mm_aload_n dX12_doUnit_173 rfl 3 rfl ?_
        refine rm_getI 26 dX12_doUnit_174 tk.1 zf_takenCut2 (by decide) rfl rfl ?_
        refine mn_top (u := .int (nI (e.2.2.1))) (congrArg Value.int ((tk.2.2.2.1.2.2.2.2.2.1))) ?_
        refine mm_iload dX12_doUnit_177 1 rfl ?_
        refine rm_callVr (As := [.int (nI (0)), .int (nI ((k) + (1))), .int (nI (e.2.2.1)), .int (nI (b))]) (rest := []) (d2 := 0) dX12_doUnit_179 tk.1 zc_waysOf zc_waysOf_s rfl rfl rfl (Nat.le_of_ble_eq_true rfl) (Nat.le_of_ble_eq_true rfl) (by decide) (tm_waysOf tk.1 tk.2.1.2.2.2.1 (by omega) (by omega) (by omega) (by omega)) ?_
        have wb179 : tb_w T (0) ((k) + (1)) (e.2.2.1) (b) ≤ 3000 := tb_le tk.2.1.2.2.2.1 (by omega) (by omega)
        refine mm_istore (L' := [(8, .int (nI (tb_w T (0) ((k) + (1)) (e.2.2.1) (b)))), (7, .int (nI (e.2.1))), (6, .int (nI (b))), (5, .int (nI (e.1))), (0, .ref (o)), (1, .int (nI (k))), (2, .int (nI (a))), (3, .int (nI (b))), (4, .int (nI (rank)))]) dX12_doUnit_182 (by decide) rfl ?_
        refine mm_aload_n dX12_doUnit_184 rfl 4 rfl ?_
        refine mm_iconst (v := nI 0) dX12_doUnit_185 (by decide) ?_
        refine mm_iload_n dX12_doUnit_186 rfl 5 rfl ?_
        refine mm_iconst (v := nI 1) dX12_doUnit_187 (by decide) ?_
        refine mn_iadd dX12_doUnit_188 ?_
        refine mm_iload dX12_doUnit_189 1 rfl ?_
        refine mm_aload_n dX12_doUnit_191 rfl 4 rfl ?_
        refine rm_getI 26 dX12_doUnit_192 tk.1 zf_takenCut2 (by decide) rfl rfl ?_
        refine mn_top (u := .int (nI (e.2.2.1))) (congrArg Value.int ((tk.2.2.2.1.2.2.2.2.2.1))) ?_
        refine rm_callVr (As := [.int (nI (0)), .int (nI ((k) + (1))), .int (nI (e.2.1)), .int (nI (e.2.2.1))]) (rest := []) (d2 := 0) dX12_doUnit_195 tk.1 zc_waysOf zc_waysOf_s rfl rfl rfl (Nat.le_of_ble_eq_true rfl) (Nat.le_of_ble_eq_true rfl) (by decide) (tm_waysOf tk.1 tk.2.1.2.2.2.1 (by omega) (by omega) (by omega) (by omega)) ?_
        have wb195 : tb_w T (0) ((k) + (1)) (e.2.1) (e.2.2.1) ≤ 3000 := tb_le tk.2.1.2.2.2.1 (by omega) (by omega)
        refine mm_istore (L' := [(9, .int (nI (tb_w T (0) ((k) + (1)) (e.2.1) (e.2.2.1)))), (8, .int (nI (tb_w T (0) ((k) + (1)) (e.2.2.1) (b)))), (7, .int (nI (e.2.1))), (6, .int (nI (b))), (5, .int (nI (e.1))), (0, .ref (o)), (1, .int (nI (k))), (2, .int (nI (a))), (3, .int (nI (b))), (4, .int (nI (rank)))]) dX12_doUnit_198 (by decide) rfl ?_
        refine mm_aload_n dX12_doUnit_200 rfl 5 rfl ?_
        refine mm_iconst (v := nI 0) dX12_doUnit_201 (by decide) ?_
        refine mm_iload_n dX12_doUnit_202 rfl 6 rfl ?_
        refine mm_iconst (v := nI 1) dX12_doUnit_203 (by decide) ?_
        refine mn_iadd dX12_doUnit_204 ?_
        refine mm_aload_n dX12_doUnit_205 rfl 5 rfl ?_
        refine rm_getI 26 dX12_doUnit_206 tk.1 zf_takenCut2 (by decide) rfl rfl ?_
        refine mn_top (u := .int (nI (e.2.2.1))) (congrArg Value.int ((tk.2.2.2.1.2.2.2.2.2.1))) ?_
        refine mm_iload dX12_doUnit_209 3 rfl ?_
        refine mm_aload_n dX12_doUnit_211 rfl 5 rfl ?_
        refine rm_getI 28 dX12_doUnit_212 tk.1 zf_takenRank (by decide) rfl rfl ?_
        refine mn_top (u := .int (nI (q))) (congrArg Value.int ((tk.2.2.2.1.2.2.2.2.2.2.2.1))) ?_
        refine mm_iload dX12_doUnit_215 1 rfl ?_
        refine mn_irem dX12_doUnit_217 (by omega) (by omega) (by omega) ?_
        refine rm_callV (As := [.int (nI (0)), .int (nI ((k) + (1))), .int (nI (e.2.2.1)), .int (nI (b)), .int (nI ((q) % (tb_w T (0) ((k) + (1)) (e.2.2.1) (b))))]) (rest := []) (d2 := 0) dX12_doUnit_218 tk.1 zc_push zc_push_s rfl rfl rfl (Nat.le_of_ble_eq_true rfl) (Nat.le_of_ble_eq_true rfl) (by decide) (tm_push tk (by (try simp only [op_t, op_p, op_l, op_3, List.length_append, List.length_cons, List.length_nil]); omega)) (fun r h1 hq => ?_)
        obtain ⟨rfl, F1, A1, tk, hf', hF', hA'⟩ := hq
        have hf := hf.tr hf'
        have hF := hF.tr hF'
        have hA := hA.tr hA'
        refine mm_aload_n dX12_doUnit_221 rfl 5 rfl ?_
        refine mm_iconst (v := nI 0) dX12_doUnit_222 (by decide) ?_
        refine mm_iload_n dX12_doUnit_223 rfl 6 rfl ?_
        refine mm_iconst (v := nI 1) dX12_doUnit_224 (by decide) ?_
        refine mn_iadd dX12_doUnit_225 ?_
        refine mm_iload dX12_doUnit_226 2 rfl ?_
        refine mm_aload_n dX12_doUnit_228 rfl 5 rfl ?_
        refine rm_getI 26 dX12_doUnit_229 tk.1 zf_takenCut2 (by decide) rfl rfl ?_
        refine mn_top (u := .int (nI (e.2.2.1))) (congrArg Value.int ((tk.2.2.2.1.2.2.2.2.2.1))) ?_
        refine mm_aload_n dX12_doUnit_232 rfl 5 rfl ?_
        refine rm_getI 28 dX12_doUnit_233 tk.1 zf_takenRank (by decide) rfl rfl ?_
        refine mn_top (u := .int (nI (q))) (congrArg Value.int ((tk.2.2.2.1.2.2.2.2.2.2.2.1))) ?_
        refine mm_iload dX12_doUnit_236 1 rfl ?_
        refine mn_idiv dX12_doUnit_238 (by omega) (by omega) (by omega) ?_
        refine mm_iload dX12_doUnit_239 0 rfl ?_
        refine mn_irem dX12_doUnit_241 (by omega) (by omega) (by omega) ?_
        refine rm_callV (As := [.int (nI (0)), .int (nI ((k) + (1))), .int (nI (e.2.1)), .int (nI (e.2.2.1)), .int (nI (((q) / (tb_w T (0) ((k) + (1)) (e.2.2.1) (b))) % (tb_w T (0) ((k) + (1)) (e.2.1) (e.2.2.1))))]) (rest := []) (d2 := 0) dX12_doUnit_242 tk.1 zc_push zc_push_s rfl rfl rfl (Nat.le_of_ble_eq_true rfl) (Nat.le_of_ble_eq_true rfl) (by decide) (tm_push tk (by (try simp only [op_t, op_p, op_l, op_3, List.length_append, List.length_cons, List.length_nil]); omega)) (fun r h1 hq => ?_)
        obtain ⟨rfl, F1, A1, tk, hf', hF', hA'⟩ := hq
        have hf := hf.tr hf'
        have hF := hF.tr hF'
        have hA := hA.tr hA'
        refine mm_aload_n dX12_doUnit_245 rfl 5 rfl ?_
        refine mm_iconst (v := nI 0) dX12_doUnit_246 (by decide) ?_
        refine mm_iload_n dX12_doUnit_247 rfl 6 rfl ?_
        refine mm_iconst (v := nI 1) dX12_doUnit_248 (by decide) ?_
        refine mn_iadd dX12_doUnit_249 ?_
        refine mm_iload_n dX12_doUnit_250 rfl 7 rfl ?_
        refine mm_iload dX12_doUnit_251 2 rfl ?_
        refine mm_aload_n dX12_doUnit_253 rfl 5 rfl ?_
        refine rm_getI 28 dX12_doUnit_254 tk.1 zf_takenRank (by decide) rfl rfl ?_
        refine mn_top (u := .int (nI (q))) (congrArg Value.int ((tk.2.2.2.1.2.2.2.2.2.2.2.1))) ?_
        refine mm_iload dX12_doUnit_257 1 rfl ?_
        refine mn_idiv dX12_doUnit_259 (by omega) (by omega) (by omega) ?_
        refine mm_iload dX12_doUnit_260 0 rfl ?_
        refine mn_idiv dX12_doUnit_262 (by omega) (by omega) (by omega) ?_
        refine rm_callV (As := [.int (nI (0)), .int (nI ((k) + (1))), .int (nI (a)), .int (nI (e.2.1)), .int (nI (((q) / (tb_w T (0) ((k) + (1)) (e.2.2.1) (b))) / (tb_w T (0) ((k) + (1)) (e.2.1) (e.2.2.1))))]) (rest := []) (d2 := 0) dX12_doUnit_263 tk.1 zc_push zc_push_s rfl rfl rfl (Nat.le_of_ble_eq_true rfl) (Nat.le_of_ble_eq_true rfl) (by decide) (tm_push tk (by (try simp only [op_t, op_p, op_l, op_3, List.length_append, List.length_cons, List.length_nil]); omega)) (fun r h1 hq => ?_)
        obtain ⟨rfl, F1, A1, tk, hf', hF', hA'⟩ := hq
        have hf := hf.tr hf'
        have hF := hF.tr hF'
        have hA := hA.tr hA'
        refine mm_goto (tgt := 367) dX12_doUnit_266 (by decide) ?_
        exact mm_vret dX12_doUnit_367 rfl (⟨rfl, _, _, _, tk, hf, hF, hA⟩)
      · rw [op_v7 v1]
        refine mn_top (u := .int (nI (7))) (congrArg Value.int (congrArg nI (v1))) ?_
        refine mm_tableIn (tgt := 269) (off := 203) dX12_doUnit_66 (by decide) (by decide) (by decide) (by decide) ?_
        refine mm_aload_n dX12_doUnit_269 rfl 3 rfl ?_
        refine mm_iload_n dX12_doUnit_270 rfl 5 rfl ?_
        refine mm_iconst (v := nI 2) dX12_doUnit_271 (by decide) ?_
        refine mm_aload_n dX12_doUnit_272 rfl 3 rfl ?_
        refine mm_iload_n dX12_doUnit_273 rfl 4 rfl ?_
        refine mm_iconst (v := nI 1) dX12_doUnit_274 (by decide) ?_
        refine mn_iadd dX12_doUnit_275 ?_
        refine rm_callVr (As := [.int (nI ((k) + (1)))]) (rest := [.int (nI (2)), .int (nI (a)), .ref (o)]) (d2 := 2) dX12_doUnit_276 tk.1 zc_full zc_full_s rfl rfl rfl (Nat.le_of_ble_eq_true rfl) (Nat.le_of_ble_eq_true rfl) (by decide) (tm_full tk.1 tk.2.1 (by omega)) ?_
        have fb279 := fl_b sg tk.2.1.2.1.2 ((k) + (1)) (by omega)
        refine mn_imul dX12_doUnit_279 ?_
        refine rm_callV (As := [.int (nI (a)), .int (nI ((2) * (fl_ sg ((k) + (1)))))]) (rest := []) (d2 := 0) dX12_doUnit_280 tk.1 zc_last zc_last_s rfl rfl rfl (Nat.le_of_ble_eq_true rfl) (Nat.le_of_ble_eq_true rfl) (by decide) (tm_last tk (by omega)) (fun r h1 hq => ?_)
        obtain ⟨rfl, F1, A1, tk, hf', hF', hA'⟩ := hq
        have hf := hf.tr hf'
        have hF := hF.tr hF'
        have hA := hA.tr hA'
        refine mm_aload_n dX12_doUnit_283 rfl 3 rfl ?_
        refine mm_iconst (v := nI 0) dX12_doUnit_284 (by decide) ?_
        refine mm_iload_n dX12_doUnit_285 rfl 4 rfl ?_
        refine mm_iconst (v := nI 1) dX12_doUnit_286 (by decide) ?_
        refine mn_iadd dX12_doUnit_287 ?_
        refine mm_iload_n dX12_doUnit_288 rfl 5 rfl ?_
        refine mm_iconst (v := nI 1) dX12_doUnit_289 (by decide) ?_
        refine mn_iadd dX12_doUnit_290 ?_
        refine mm_iload dX12_doUnit_291 1 rfl ?_
        refine mm_aload_n dX12_doUnit_293 rfl 3 rfl ?_
        refine rm_getI 28 dX12_doUnit_294 tk.1 zf_takenRank (by decide) rfl rfl ?_
        refine mn_top (u := .int (nI (q))) (congrArg Value.int ((tk.2.2.2.1.2.2.2.2.2.2.2.1))) ?_
        refine rm_callV (As := [.int (nI (0)), .int (nI ((k) + (1))), .int (nI ((a) + (1))), .int (nI (b)), .int (nI (q))]) (rest := []) (d2 := 0) dX12_doUnit_297 tk.1 zc_push zc_push_s rfl rfl rfl (Nat.le_of_ble_eq_true rfl) (Nat.le_of_ble_eq_true rfl) (by decide) (tm_push tk (by (try simp only [op_t, op_p, op_l, op_3, List.length_append, List.length_cons, List.length_nil]); omega)) (fun r h1 hq => ?_)
        obtain ⟨rfl, F1, A1, tk, hf', hF', hA'⟩ := hq
        have hf := hf.tr hf'
        have hF := hF.tr hF'
        have hA := hA.tr hA'
        refine mm_goto (tgt := 367) dX12_doUnit_300 (by decide) ?_
        exact mm_vret dX12_doUnit_367 rfl (⟨rfl, _, _, _, tk, hf, hF, hA⟩)
      · rcases v1 with v1 | v1
        · rw [op_v8 v1]
          refine mn_top (u := .int (nI (8))) (congrArg Value.int (congrArg nI (v1))) ?_
          refine mm_tableIn (tgt := 303) (off := 237) dX12_doUnit_66 (by decide) (by decide) (by decide) (by decide) ?_
          refine mm_aload_n dX12_doUnit_303 rfl 3 rfl ?_
          refine mm_iload dX12_doUnit_304 0 rfl ?_
          refine mm_iconst (v := nI 2) dX12_doUnit_306 (by decide) ?_
          refine mm_aload_n dX12_doUnit_307 rfl 3 rfl ?_
          refine mm_iload_n dX12_doUnit_308 rfl 4 rfl ?_
          refine mm_iconst (v := nI 1) dX12_doUnit_309 (by decide) ?_
          refine mn_iadd dX12_doUnit_310 ?_
          refine rm_callVr (As := [.int (nI ((k) + (1)))]) (rest := [.int (nI (2)), .int (nI (e.2.1)), .ref (o)]) (d2 := 2) dX12_doUnit_311 tk.1 zc_full zc_full_s rfl rfl rfl (Nat.le_of_ble_eq_true rfl) (Nat.le_of_ble_eq_true rfl) (by decide) (tm_full tk.1 tk.2.1 (by omega)) ?_
          have fb314 := fl_b sg tk.2.1.2.1.2 ((k) + (1)) (by omega)
          refine mn_imul dX12_doUnit_314 ?_
          refine rm_callV (As := [.int (nI (e.2.1)), .int (nI ((2) * (fl_ sg ((k) + (1)))))]) (rest := []) (d2 := 0) dX12_doUnit_315 tk.1 zc_last zc_last_s rfl rfl rfl (Nat.le_of_ble_eq_true rfl) (Nat.le_of_ble_eq_true rfl) (by decide) (tm_last tk (by omega)) (fun r h1 hq => ?_)
          obtain ⟨rfl, F1, A1, tk, hf', hF', hA'⟩ := hq
          have hf := hf.tr hf'
          have hF := hF.tr hF'
          have hA := hA.tr hA'
          refine mm_aload_n dX12_doUnit_318 rfl 3 rfl ?_
          refine mm_iconst (v := nI 0) dX12_doUnit_319 (by decide) ?_
          refine mm_iload_n dX12_doUnit_320 rfl 4 rfl ?_
          refine mm_iconst (v := nI 1) dX12_doUnit_321 (by decide) ?_
          refine mn_iadd dX12_doUnit_322 ?_
          refine mm_iload_n dX12_doUnit_323 rfl 5 rfl ?_
          refine mm_iload dX12_doUnit_324 0 rfl ?_
          refine mm_aload_n dX12_doUnit_326 rfl 3 rfl ?_
          refine rm_getI 28 dX12_doUnit_327 tk.1 zf_takenRank (by decide) rfl rfl ?_
          refine mn_top (u := .int (nI (q))) (congrArg Value.int ((tk.2.2.2.1.2.2.2.2.2.2.2.1))) ?_
          refine rm_callV (As := [.int (nI (0)), .int (nI ((k) + (1))), .int (nI (a)), .int (nI (e.2.1)), .int (nI (q))]) (rest := []) (d2 := 0) dX12_doUnit_330 tk.1 zc_push zc_push_s rfl rfl rfl (Nat.le_of_ble_eq_true rfl) (Nat.le_of_ble_eq_true rfl) (by decide) (tm_push tk (by (try simp only [op_t, op_p, op_l, op_3, List.length_append, List.length_cons, List.length_nil]); omega)) (fun r h1 hq => ?_)
          obtain ⟨rfl, F1, A1, tk, hf', hF', hA'⟩ := hq
          have hf := hf.tr hf'
          have hF := hF.tr hF'
          have hA := hA.tr hA'
          refine mm_goto (tgt := 367) dX12_doUnit_333 (by decide) ?_
          exact mm_vret dX12_doUnit_367 rfl (⟨rfl, _, _, _, tk, hf, hF, hA⟩)
        · rw [op_v9 v1]
          refine mn_top (u := .int (nI (9))) (congrArg Value.int (congrArg nI (v1))) ?_
          refine mm_tableIn (tgt := 303) (off := 237) dX12_doUnit_66 (by decide) (by decide) (by decide) (by decide) ?_
          refine mm_aload_n dX12_doUnit_303 rfl 3 rfl ?_
          refine mm_iload dX12_doUnit_304 0 rfl ?_
          refine mm_iconst (v := nI 2) dX12_doUnit_306 (by decide) ?_
          refine mm_aload_n dX12_doUnit_307 rfl 3 rfl ?_
          refine mm_iload_n dX12_doUnit_308 rfl 4 rfl ?_
          refine mm_iconst (v := nI 1) dX12_doUnit_309 (by decide) ?_
          refine mn_iadd dX12_doUnit_310 ?_
          refine rm_callVr (As := [.int (nI ((k) + (1)))]) (rest := [.int (nI (2)), .int (nI (e.2.1)), .ref (o)]) (d2 := 2) dX12_doUnit_311 tk.1 zc_full zc_full_s rfl rfl rfl (Nat.le_of_ble_eq_true rfl) (Nat.le_of_ble_eq_true rfl) (by decide) (tm_full tk.1 tk.2.1 (by omega)) ?_
          have fb314 := fl_b sg tk.2.1.2.1.2 ((k) + (1)) (by omega)
          refine mn_imul dX12_doUnit_314 ?_
          refine rm_callV (As := [.int (nI (e.2.1)), .int (nI ((2) * (fl_ sg ((k) + (1)))))]) (rest := []) (d2 := 0) dX12_doUnit_315 tk.1 zc_last zc_last_s rfl rfl rfl (Nat.le_of_ble_eq_true rfl) (Nat.le_of_ble_eq_true rfl) (by decide) (tm_last tk (by omega)) (fun r h1 hq => ?_)
          obtain ⟨rfl, F1, A1, tk, hf', hF', hA'⟩ := hq
          have hf := hf.tr hf'
          have hF := hF.tr hF'
          have hA := hA.tr hA'
          refine mm_aload_n dX12_doUnit_318 rfl 3 rfl ?_
          refine mm_iconst (v := nI 0) dX12_doUnit_319 (by decide) ?_
          refine mm_iload_n dX12_doUnit_320 rfl 4 rfl ?_
          refine mm_iconst (v := nI 1) dX12_doUnit_321 (by decide) ?_
          refine mn_iadd dX12_doUnit_322 ?_
          refine mm_iload_n dX12_doUnit_323 rfl 5 rfl ?_
          refine mm_iload dX12_doUnit_324 0 rfl ?_
          refine mm_aload_n dX12_doUnit_326 rfl 3 rfl ?_
          refine rm_getI 28 dX12_doUnit_327 tk.1 zf_takenRank (by decide) rfl rfl ?_
          refine mn_top (u := .int (nI (q))) (congrArg Value.int ((tk.2.2.2.1.2.2.2.2.2.2.2.1))) ?_
          refine rm_callV (As := [.int (nI (0)), .int (nI ((k) + (1))), .int (nI (a)), .int (nI (e.2.1)), .int (nI (q))]) (rest := []) (d2 := 0) dX12_doUnit_330 tk.1 zc_push zc_push_s rfl rfl rfl (Nat.le_of_ble_eq_true rfl) (Nat.le_of_ble_eq_true rfl) (by decide) (tm_push tk (by (try simp only [op_t, op_p, op_l, op_3, List.length_append, List.length_cons, List.length_nil]); omega)) (fun r h1 hq => ?_)
          obtain ⟨rfl, F1, A1, tk, hf', hF', hA'⟩ := hq
          have hf := hf.tr hf'
          have hF := hF.tr hF'
          have hA := hA.tr hA'
          refine mm_goto (tgt := 367) dX12_doUnit_333 (by decide) ?_
          exact mm_vret dX12_doUnit_367 rfl (⟨rfl, _, _, _, tk, hf, hF, hA⟩)
      · rw [op_v10 v1]
        refine mn_top (u := .int (nI (10))) (congrArg Value.int (congrArg nI (v1))) ?_
        refine mm_tableIn (tgt := 336) (off := 270) dX12_doUnit_66 (by decide) (by decide) (by decide) (by decide) ?_
        refine mm_aload_n dX12_doUnit_336 rfl 3 rfl ?_
        refine mm_iconst (v := nI 0) dX12_doUnit_337 (by decide) ?_
        refine mm_iload_n dX12_doUnit_338 rfl 5 rfl ?_
        refine mm_iload dX12_doUnit_339 0 rfl ?_
        refine mm_iconst (v := nI 1) dX12_doUnit_341 (by decide) ?_
        refine mm_iload dX12_doUnit_342 1 rfl ?_
        refine mm_iload_n dX12_doUnit_344 rfl 4 rfl ?_
        refine mm_iconst (v := nI 1) dX12_doUnit_345 (by decide) ?_
        refine mn_iadd dX12_doUnit_346 ?_
        refine rm_callV (As := [.int (nI (0)), .int (nI (a)), .int (nI (e.2.1)), .int (nI (1)), .int (nI (b)), .int (nI ((k) + (1)))]) (rest := []) (d2 := 1) dX12_doUnit_347 tk.1 zc_pushTwo zc_pushTwo_s rfl rfl rfl (Nat.le_of_ble_eq_true rfl) (Nat.le_of_ble_eq_true rfl) (by decide) (tm_pushTwo tk (by omega) (by omega) (by omega) (by omega) (by assumption) (by show q < 2 ^ 31; omega) (by (try simp only [op_t, op_p, op_l, op_3, List.length_append, List.length_cons, List.length_nil]); omega) (by (try simp only [op_t, op_p, op_l, op_3, List.length_append, List.length_cons, List.length_nil]); omega)) (fun r h1 hq => ?_)
        obtain ⟨rfl, F1, A1, tk, hf', hF', hA'⟩ := hq
        have hf := hf.tr hf'
        have hF := hF.tr hF'
        have hA := hA.tr hA'
        refine mm_goto (tgt := 367) dX12_doUnit_350 (by decide) ?_
        exact mm_vret dX12_doUnit_367 rfl (⟨rfl, _, _, _, tk, hf, hF, hA⟩)
      · rw [op_v11 v1]
        refine mn_top (u := .int (nI (11))) (congrArg Value.int (congrArg nI (v1))) ?_
        refine mm_tableOut (tgt := 353) dX12_doUnit_66 (Or.inr (by decide)) (by decide) ?_
        refine mm_aload_n dX12_doUnit_353 rfl 3 rfl ?_
        refine mm_iconst (v := nI 1) dX12_doUnit_354 (by decide) ?_
        refine mm_iload_n dX12_doUnit_355 rfl 5 rfl ?_
        refine mm_iload dX12_doUnit_356 0 rfl ?_
        refine mm_iconst (v := nI 0) dX12_doUnit_358 (by decide) ?_
        refine mm_iload dX12_doUnit_359 1 rfl ?_
        refine mm_iload_n dX12_doUnit_361 rfl 4 rfl ?_
        refine mm_iconst (v := nI 1) dX12_doUnit_362 (by decide) ?_
        refine mn_iadd dX12_doUnit_363 ?_
        refine rm_callV (As := [.int (nI (1)), .int (nI (a)), .int (nI (e.2.1)), .int (nI (0)), .int (nI (b)), .int (nI ((k) + (1)))]) (rest := []) (d2 := 1) dX12_doUnit_364 tk.1 zc_pushTwo zc_pushTwo_s rfl rfl rfl (Nat.le_of_ble_eq_true rfl) (Nat.le_of_ble_eq_true rfl) (by decide) (tm_pushTwo tk (by omega) (by omega) (by omega) (by omega) (by assumption) (by show q < 2 ^ 31; omega) (by (try simp only [op_t, op_p, op_l, op_3, List.length_append, List.length_cons, List.length_nil]); omega) (by (try simp only [op_t, op_p, op_l, op_3, List.length_append, List.length_cons, List.length_nil]); omega)) (fun r h1 hq => ?_)
        obtain ⟨rfl, F1, A1, tk, hf', hF', hA'⟩ := hq
        have hf := hf.tr hf'
        have hF := hF.tr hF'
        have hA := hA.tr hA'
        exact mm_vret dX12_doUnit_367 rfl (⟨rfl, _, _, _, tk, hf, hF, hA⟩)
    · exact absurd (c23.symm.trans c45) (by decide)
  · rw [show op_u sg T k a b e q P = op_v sg T k a (b - 1) e.1 e.2.1 e.2.2.1 q (op_p (4, 12, 0, 0, 0) (op_t e.1 P)) from by unfold op_u; rw [if_pos c23, if_pos c23]]
    rw [if_pos c23] at hinv
    refine mm_iload_n dX12_doUnit_26 rfl 4 rfl ?_
    refine mm_iconst (v := nI 1) dX12_doUnit_27 (by decide) ?_
    refine mn_isub dX12_doUnit_28 (by omega) ?_
    refine mm_goto (tgt := 33) dX12_doUnit_29 (by decide) ?_
    refine mm_istore (L' := [(6, .int (nI (b - 1))), (5, .int (nI (e.1))), (0, .ref (o)), (1, .int (nI (k))), (2, .int (nI (a))), (3, .int (nI (b))), (4, .int (nI (rank)))]) dX12_doUnit_33 (by decide) rfl ?_
    refine mm_aload_n dX12_doUnit_35 rfl 2 rfl ?_
    refine mm_iload dX12_doUnit_36 1 rfl ?_
    refine rm_callV (As := [.int (nI (e.1))]) (rest := []) (d2 := 0) dX12_doUnit_38 tk.1 zc_tell zc_tell_s rfl rfl rfl (Nat.le_of_ble_eq_true rfl) (Nat.le_of_ble_eq_true rfl) (by decide) (tm_tell tk (by (try simp only [op_t, op_p, op_l, op_3, List.length_append, List.length_cons, List.length_nil]); omega) (by omega)) (fun r h1 hq => ?_)
    obtain ⟨rfl, F1, A1, tk, hf', hF', hA'⟩ := hq
    have hf := hf.tr hf'
    have hF := hF.tr hF'
    have hA := hA.tr hA'
    refine mm_aload_n dX12_doUnit_41 rfl 2 rfl ?_
    refine rm_getI 27 dX12_doUnit_42 tk.1 zf_takenDot (by decide) rfl rfl ?_
    refine mn_top (u := .int (nI (Bool.toNat (e.2.2.2.1)))) (congrArg Value.int ((tk.2.2.2.1.2.2.2.2.2.2.1))) ?_
    refine mn_ifB_eq (tgt := 58) dX12_doUnit_45 (by decide) (fun c45 => ?_) (fun c45 => ?_)
    · exact absurd (c23.symm.trans c45) (by decide)
    · refine mm_aload_n dX12_doUnit_48 rfl 2 rfl ?_
      refine mm_iconst (v := nI 4) dX12_doUnit_49 (by decide) ?_
      refine mm_bipush (v := nI 12) dX12_doUnit_50 (by decide) ?_
      refine mm_iconst (v := nI 0) dX12_doUnit_52 (by decide) ?_
      refine mm_iconst (v := nI 0) dX12_doUnit_53 (by decide) ?_
      refine mm_iconst (v := nI 0) dX12_doUnit_54 (by decide) ?_
      refine rm_callV (As := [.int (nI (4)), .int (nI (12)), .int (nI (0)), .int (nI (0)), .int (nI (0))]) (rest := []) (d2 := 0) dX12_doUnit_55 tk.1 zc_push zc_push_s rfl rfl rfl (Nat.le_of_ble_eq_true rfl) (Nat.le_of_ble_eq_true rfl) (by decide) (tm_push tk (by (try simp only [op_t, op_p, op_l, op_3, List.length_append, List.length_cons, List.length_nil]); omega)) (fun r h1 hq => ?_)
      obtain ⟨rfl, F1, A1, tk, hf', hF', hA'⟩ := hq
      have hf := hf.tr hf'
      have hF := hF.tr hF'
      have hA := hA.tr hA'
      refine mm_aload_n dX12_doUnit_58 rfl 2 rfl ?_
      refine rm_getI 25 dX12_doUnit_59 tk.1 zf_takenCut (by decide) rfl rfl ?_
      refine mn_top (u := .int (nI (e.2.1))) (congrArg Value.int ((tk.2.2.2.1.2.2.2.2.1))) ?_
      refine mm_istore (L' := [(7, .int (nI (e.2.1))), (6, .int (nI (b - 1))), (5, .int (nI (e.1))), (0, .ref (o)), (1, .int (nI (k))), (2, .int (nI (a))), (3, .int (nI (b))), (4, .int (nI (rank)))]) dX12_doUnit_62 (by decide) rfl ?_
      refine mm_iload dX12_doUnit_64 2 rfl ?_
      have hto : b - 1 ≤ 24 := by omega
      rcases hinv with ⟨v1, v2⟩ | ⟨v1, v2, v3, v4, v5, v6⟩ | ⟨v1, v2⟩ | ⟨v1, v2, v3, v4, v5, v6, v7, v8⟩ | ⟨v1, v2, v3⟩ | ⟨v1, v2, v3, v4⟩ | ⟨v1, v2, v3, v4, v5, v6⟩ | ⟨v1, v2, v3, v4, v5, v6⟩
      · rcases (show e.1 = 1 ∨ e.1 = 2 ∨ e.1 = 3 from by omega) with v3 | v3 | v3
        · rw [op_v1 v3]
          refine mn_top (u := .int (nI (1))) (congrArg Value.int (congrArg nI (v3))) ?_
          refine mm_tableIn (tgt := 120) (off := 54) dX12_doUnit_66 (by decide) (by decide) (by decide) (by decide) ?_
          refine mm_aload_n dX12_doUnit_120 rfl 3 rfl ?_
          refine mm_iload_n dX12_doUnit_121 rfl 5 rfl ?_
          refine mm_aload_n dX12_doUnit_122 rfl 3 rfl ?_
          refine mm_iload_n dX12_doUnit_123 rfl 4 rfl ?_
          refine rm_callVr (As := [.int (nI (k))]) (rest := [.int (nI (a)), .ref (o)]) (d2 := 2) dX12_doUnit_124 tk.1 zc_full zc_full_s rfl rfl rfl (Nat.le_of_ble_eq_true rfl) (Nat.le_of_ble_eq_true rfl) (by decide) (tm_full tk.1 tk.2.1 (by omega)) ?_
          have fb127 := fl_b sg tk.2.1.2.1.2 (k) (by omega)
          refine rm_callV (As := [.int (nI (a)), .int (nI (fl_ sg (k)))]) (rest := []) (d2 := 0) dX12_doUnit_127 tk.1 zc_last zc_last_s rfl rfl rfl (Nat.le_of_ble_eq_true rfl) (Nat.le_of_ble_eq_true rfl) (by decide) (tm_last tk (by omega)) (fun r h1 hq => ?_)
          obtain ⟨rfl, F1, A1, tk, hf', hF', hA'⟩ := hq
          have hf := hf.tr hf'
          have hF := hF.tr hF'
          have hA := hA.tr hA'
          refine mm_goto (tgt := 367) dX12_doUnit_130 (by decide) ?_
          exact mm_vret dX12_doUnit_367 rfl (⟨rfl, _, _, _, tk, hf, hF, hA⟩)
        · rw [op_v2 v3]
          refine mn_top (u := .int (nI (2))) (congrArg Value.int (congrArg nI (v3))) ?_
          refine mm_tableIn (tgt := 120) (off := 54) dX12_doUnit_66 (by decide) (by decide) (by decide) (by decide) ?_
          refine mm_aload_n dX12_doUnit_120 rfl 3 rfl ?_
          refine mm_iload_n dX12_doUnit_121 rfl 5 rfl ?_
          refine mm_aload_n dX12_doUnit_122 rfl 3 rfl ?_
          refine mm_iload_n dX12_doUnit_123 rfl 4 rfl ?_
          refine rm_callVr (As := [.int (nI (k))]) (rest := [.int (nI (a)), .ref (o)]) (d2 := 2) dX12_doUnit_124 tk.1 zc_full zc_full_s rfl rfl rfl (Nat.le_of_ble_eq_true rfl) (Nat.le_of_ble_eq_true rfl) (by decide) (tm_full tk.1 tk.2.1 (by omega)) ?_
          have fb127 := fl_b sg tk.2.1.2.1.2 (k) (by omega)
          refine rm_callV (As := [.int (nI (a)), .int (nI (fl_ sg (k)))]) (rest := []) (d2 := 0) dX12_doUnit_127 tk.1 zc_last zc_last_s rfl rfl rfl (Nat.le_of_ble_eq_true rfl) (Nat.le_of_ble_eq_true rfl) (by decide) (tm_last tk (by omega)) (fun r h1 hq => ?_)
          obtain ⟨rfl, F1, A1, tk, hf', hF', hA'⟩ := hq
          have hf := hf.tr hf'
          have hF := hF.tr hF'
          have hA := hA.tr hA'
          refine mm_goto (tgt := 367) dX12_doUnit_130 (by decide) ?_
          exact mm_vret dX12_doUnit_367 rfl (⟨rfl, _, _, _, tk, hf, hF, hA⟩)
        · rw [op_v3 v3]
          refine mn_top (u := .int (nI (3))) (congrArg Value.int (congrArg nI (v3))) ?_
          refine mm_tableIn (tgt := 120) (off := 54) dX12_doUnit_66 (by decide) (by decide) (by decide) (by decide) ?_
          refine mm_aload_n dX12_doUnit_120 rfl 3 rfl ?_
          refine mm_iload_n dX12_doUnit_121 rfl 5 rfl ?_
          refine mm_aload_n dX12_doUnit_122 rfl 3 rfl ?_
          refine mm_iload_n dX12_doUnit_123 rfl 4 rfl ?_
          refine rm_callVr (As := [.int (nI (k))]) (rest := [.int (nI (a)), .ref (o)]) (d2 := 2) dX12_doUnit_124 tk.1 zc_full zc_full_s rfl rfl rfl (Nat.le_of_ble_eq_true rfl) (Nat.le_of_ble_eq_true rfl) (by decide) (tm_full tk.1 tk.2.1 (by omega)) ?_
          have fb127 := fl_b sg tk.2.1.2.1.2 (k) (by omega)
          refine rm_callV (As := [.int (nI (a)), .int (nI (fl_ sg (k)))]) (rest := []) (d2 := 0) dX12_doUnit_127 tk.1 zc_last zc_last_s rfl rfl rfl (Nat.le_of_ble_eq_true rfl) (Nat.le_of_ble_eq_true rfl) (by decide) (tm_last tk (by omega)) (fun r h1 hq => ?_)
          obtain ⟨rfl, F1, A1, tk, hf', hF', hA'⟩ := hq
          have hf := hf.tr hf'
          have hF := hF.tr hF'
          have hA := hA.tr hA'
          refine mm_goto (tgt := 367) dX12_doUnit_130 (by decide) ?_
          exact mm_vret dX12_doUnit_367 rfl (⟨rfl, _, _, _, tk, hf, hF, hA⟩)
      · rw [op_v4 v1]
        refine mn_top (u := .int (nI (4))) (congrArg Value.int (congrArg nI (v1))) ?_
        refine mm_tableIn (tgt := 133) (off := 67) dX12_doUnit_66 (by decide) (by decide) (by decide) (by decide) ?_
        refine mm_aload_n dX12_doUnit_133 rfl 3 rfl ?_
        refine mm_iconst (v := nI 0) dX12_doUnit_134 (by decide) ?_
        refine mm_iload_n dX12_doUnit_135 rfl 5 rfl ?_
        refine mm_iload dX12_doUnit_136 0 rfl ?_
        refine mm_iconst (v := nI 0) dX12_doUnit_138 (by decide) ?_
        refine mm_iload dX12_doUnit_139 1 rfl ?_
        refine mm_iload_n dX12_doUnit_141 rfl 4 rfl ?_
        refine mm_iconst (v := nI 1) dX12_doUnit_142 (by decide) ?_
        refine mn_iadd dX12_doUnit_143 ?_
        refine rm_callV (As := [.int (nI (0)), .int (nI (a)), .int (nI (e.2.1)), .int (nI (0)), .int (nI (b - 1)), .int (nI ((k) + (1)))]) (rest := []) (d2 := 1) dX12_doUnit_144 tk.1 zc_pushTwo zc_pushTwo_s rfl rfl rfl (Nat.le_of_ble_eq_true rfl) (Nat.le_of_ble_eq_true rfl) (by decide) (tm_pushTwo tk (by omega) (by omega) (by omega) (by omega) (by assumption) (by show q < 2 ^ 31; omega) (by (try simp only [op_t, op_p, op_l, op_3, List.length_append, List.length_cons, List.length_nil]); omega) (by (try simp only [op_t, op_p, op_l, op_3, List.length_append, List.length_cons, List.length_nil]); omega)) (fun r h1 hq => ?_)
        obtain ⟨rfl, F1, A1, tk, hf', hF', hA'⟩ := hq
        have hf := hf.tr hf'
        have hF := hF.tr hF'
        have hA := hA.tr hA'
        refine mm_goto (tgt := 367) dX12_doUnit_147 (by decide) ?_
        exact mm_vret dX12_doUnit_367 rfl (⟨rfl, _, _, _, tk, hf, hF, hA⟩)
      · rw [op_v5 v1]
        refine mn_top (u := .int (nI (5))) (congrArg Value.int (congrArg nI (v1))) ?_
        refine mm_tableIn (tgt := 150) (off := 84) dX12_doUnit_66 (by decide) (by decide) (by decide) (by decide) ?_
        refine mm_aload_n dX12_doUnit_150 rfl 3 rfl ?_
        refine mm_iconst (v := nI 1) dX12_doUnit_151 (by decide) ?_
        refine mm_iload_n dX12_doUnit_152 rfl 4 rfl ?_
        refine mm_iconst (v := nI 1) dX12_doUnit_153 (by decide) ?_
        refine mn_iadd dX12_doUnit_154 ?_
        refine mm_iload_n dX12_doUnit_155 rfl 5 rfl ?_
        refine mm_iload dX12_doUnit_156 1 rfl ?_
        refine mm_aload_n dX12_doUnit_158 rfl 3 rfl ?_
        refine rm_getI 28 dX12_doUnit_159 tk.1 zf_takenRank (by decide) rfl rfl ?_
        refine mn_top (u := .int (nI (q))) (congrArg Value.int ((tk.2.2.2.1.2.2.2.2.2.2.2.1))) ?_
        refine rm_callV (As := [.int (nI (1)), .int (nI ((k) + (1))), .int (nI (a)), .int (nI (b - 1)), .int (nI (q))]) (rest := []) (d2 := 0) dX12_doUnit_162 tk.1 zc_push zc_push_s rfl rfl rfl (Nat.le_of_ble_eq_true rfl) (Nat.le_of_ble_eq_true rfl) (by decide) (tm_push tk (by (try simp only [op_t, op_p, op_l, op_3, List.length_append, List.length_cons, List.length_nil]); omega)) (fun r h1 hq => ?_)
        obtain ⟨rfl, F1, A1, tk, hf', hF', hA'⟩ := hq
        have hf := hf.tr hf'
        have hF := hF.tr hF'
        have hA := hA.tr hA'
        refine mm_goto (tgt := 367) dX12_doUnit_165 (by decide) ?_
        exact mm_vret dX12_doUnit_367 rfl (⟨rfl, _, _, _, tk, hf, hF, hA⟩)
      · rw [op_v6 v1]
        have dq := Nat.div_le_self q (tb_w T 0 (k + 1) e.2.2.1 (b - 1))
        refine mn_top (u := .int (nI (6))) (congrArg Value.int (congrArg nI (v1))) ?_
        refine mm_tableIn (tgt := 168) (off := 102) dX12_doUnit_66 (by decide) (by decide) (by decide) (by decide) ?_
        refine mm_aload_n dX12_doUnit_168 rfl 3 rfl ?_
        refine mm_iconst (v := nI 0) dX12_doUnit_169 (by decide) ?_
        refine mm_iload_n dX12_doUnit_170 rfl 4 rfl ?_
        refine mm_iconst (v := nI 1) dX12_doUnit_171 (by decide) ?_
        refine mn_iadd dX12_doUnit_172 ?_
        refine mm_aload_n dX12_doUnit_173 rfl 3 rfl ?_
        refine rm_getI 26 dX12_doUnit_174 tk.1 zf_takenCut2 (by decide) rfl rfl ?_
        refine mn_top (u := .int (nI (e.2.2.1))) (congrArg Value.int ((tk.2.2.2.1.2.2.2.2.2.1))) ?_
        refine mm_iload dX12_doUnit_177 1 rfl ?_
        refine rm_callVr (As := [.int (nI (0)), .int (nI ((k) + (1))), .int (nI (e.2.2.1)), .int (nI (b - 1))]) (rest := []) (d2 := 0) dX12_doUnit_179 tk.1 zc_waysOf zc_waysOf_s rfl rfl rfl (Nat.le_of_ble_eq_true rfl) (Nat.le_of_ble_eq_true rfl) (by decide) (tm_waysOf tk.1 tk.2.1.2.2.2.1 (by omega) (by omega) (by omega) (by omega)) ?_
        have wb179 : tb_w T (0) ((k) + (1)) (e.2.2.1) (b - 1) ≤ 3000 := tb_le tk.2.1.2.2.2.1 (by omega) (by omega)
        refine mm_istore (L' := [(8, .int (nI (tb_w T (0) ((k) + (1)) (e.2.2.1) (b - 1)))), (7, .int (nI (e.2.1))), (6, .int (nI (b - 1))), (5, .int (nI (e.1))), (0, .ref (o)), (1, .int (nI (k))), (2, .int (nI (a))), (3, .int (nI (b))), (4, .int (nI (rank)))]) dX12_doUnit_182 (by decide) rfl ?_
        refine mm_aload_n dX12_doUnit_184 rfl 4 rfl ?_
        refine mm_iconst (v := nI 0) dX12_doUnit_185 (by decide) ?_
        refine mm_iload_n dX12_doUnit_186 rfl 5 rfl ?_
        refine mm_iconst (v := nI 1) dX12_doUnit_187 (by decide) ?_
        refine mn_iadd dX12_doUnit_188 ?_
        refine mm_iload dX12_doUnit_189 1 rfl ?_
        refine mm_aload_n dX12_doUnit_191 rfl 4 rfl ?_
        refine rm_getI 26 dX12_doUnit_192 tk.1 zf_takenCut2 (by decide) rfl rfl ?_
        refine mn_top (u := .int (nI (e.2.2.1))) (congrArg Value.int ((tk.2.2.2.1.2.2.2.2.2.1))) ?_
        refine rm_callVr (As := [.int (nI (0)), .int (nI ((k) + (1))), .int (nI (e.2.1)), .int (nI (e.2.2.1))]) (rest := []) (d2 := 0) dX12_doUnit_195 tk.1 zc_waysOf zc_waysOf_s rfl rfl rfl (Nat.le_of_ble_eq_true rfl) (Nat.le_of_ble_eq_true rfl) (by decide) (tm_waysOf tk.1 tk.2.1.2.2.2.1 (by omega) (by omega) (by omega) (by omega)) ?_
        have wb195 : tb_w T (0) ((k) + (1)) (e.2.1) (e.2.2.1) ≤ 3000 := tb_le tk.2.1.2.2.2.1 (by omega) (by omega)
        refine mm_istore (L' := [(9, .int (nI (tb_w T (0) ((k) + (1)) (e.2.1) (e.2.2.1)))), (8, .int (nI (tb_w T (0) ((k) + (1)) (e.2.2.1) (b - 1)))), (7, .int (nI (e.2.1))), (6, .int (nI (b - 1))), (5, .int (nI (e.1))), (0, .ref (o)), (1, .int (nI (k))), (2, .int (nI (a))), (3, .int (nI (b))), (4, .int (nI (rank)))]) dX12_doUnit_198 (by decide) rfl ?_
        refine mm_aload_n dX12_doUnit_200 rfl 5 rfl ?_
        refine mm_iconst (v := nI 0) dX12_doUnit_201 (by decide) ?_
        refine mm_iload_n dX12_doUnit_202 rfl 6 rfl ?_
        refine mm_iconst (v := nI 1) dX12_doUnit_203 (by decide) ?_
        refine mn_iadd dX12_doUnit_204 ?_
        refine mm_aload_n dX12_doUnit_205 rfl 5 rfl ?_
        refine rm_getI 26 dX12_doUnit_206 tk.1 zf_takenCut2 (by decide) rfl rfl ?_
        refine mn_top (u := .int (nI (e.2.2.1))) (congrArg Value.int ((tk.2.2.2.1.2.2.2.2.2.1))) ?_
        refine mm_iload dX12_doUnit_209 3 rfl ?_
        refine mm_aload_n dX12_doUnit_211 rfl 5 rfl ?_
        refine rm_getI 28 dX12_doUnit_212 tk.1 zf_takenRank (by decide) rfl rfl ?_
        refine mn_top (u := .int (nI (q))) (congrArg Value.int ((tk.2.2.2.1.2.2.2.2.2.2.2.1))) ?_
        refine mm_iload dX12_doUnit_215 1 rfl ?_
        refine mn_irem dX12_doUnit_217 (by omega) (by omega) (by omega) ?_
        refine rm_callV (As := [.int (nI (0)), .int (nI ((k) + (1))), .int (nI (e.2.2.1)), .int (nI (b - 1)), .int (nI ((q) % (tb_w T (0) ((k) + (1)) (e.2.2.1) (b - 1))))]) (rest := []) (d2 := 0) dX12_doUnit_218 tk.1 zc_push zc_push_s rfl rfl rfl (Nat.le_of_ble_eq_true rfl) (Nat.le_of_ble_eq_true rfl) (by decide) (tm_push tk (by (try simp only [op_t, op_p, op_l, op_3, List.length_append, List.length_cons, List.length_nil]); omega)) (fun r h1 hq => ?_)
        obtain ⟨rfl, F1, A1, tk, hf', hF', hA'⟩ := hq
        have hf := hf.tr hf'
        have hF := hF.tr hF'
        have hA := hA.tr hA'
        refine mm_aload_n dX12_doUnit_221 rfl 5 rfl ?_
        refine mm_iconst (v := nI 0) dX12_doUnit_222 (by decide) ?_
        refine mm_iload_n dX12_doUnit_223 rfl 6 rfl ?_
        refine mm_iconst (v := nI 1) dX12_doUnit_224 (by decide) ?_
        refine mn_iadd dX12_doUnit_225 ?_
        refine mm_iload dX12_doUnit_226 2 rfl ?_
        refine mm_aload_n dX12_doUnit_228 rfl 5 rfl ?_
        refine rm_getI 26 dX12_doUnit_229 tk.1 zf_takenCut2 (by decide) rfl rfl ?_
        refine mn_top (u := .int (nI (e.2.2.1))) (congrArg Value.int ((tk.2.2.2.1.2.2.2.2.2.1))) ?_
        refine mm_aload_n dX12_doUnit_232 rfl 5 rfl ?_
        refine rm_getI 28 dX12_doUnit_233 tk.1 zf_takenRank (by decide) rfl rfl ?_
        refine mn_top (u := .int (nI (q))) (congrArg Value.int ((tk.2.2.2.1.2.2.2.2.2.2.2.1))) ?_
        refine mm_iload dX12_doUnit_236 1 rfl ?_
        refine mn_idiv dX12_doUnit_238 (by omega) (by omega) (by omega) ?_
        refine mm_iload dX12_doUnit_239 0 rfl ?_
        refine mn_irem dX12_doUnit_241 (by omega) (by omega) (by omega) ?_
        refine rm_callV (As := [.int (nI (0)), .int (nI ((k) + (1))), .int (nI (e.2.1)), .int (nI (e.2.2.1)), .int (nI (((q) / (tb_w T (0) ((k) + (1)) (e.2.2.1) (b - 1))) % (tb_w T (0) ((k) + (1)) (e.2.1) (e.2.2.1))))]) (rest := []) (d2 := 0) dX12_doUnit_242 tk.1 zc_push zc_push_s rfl rfl rfl (Nat.le_of_ble_eq_true rfl) (Nat.le_of_ble_eq_true rfl) (by decide) (tm_push tk (by (try simp only [op_t, op_p, op_l, op_3, List.length_append, List.length_cons, List.length_nil]); omega)) (fun r h1 hq => ?_)
        obtain ⟨rfl, F1, A1, tk, hf', hF', hA'⟩ := hq
        have hf := hf.tr hf'
        have hF := hF.tr hF'
        have hA := hA.tr hA'
        refine mm_aload_n dX12_doUnit_245 rfl 5 rfl ?_
        refine mm_iconst (v := nI 0) dX12_doUnit_246 (by decide) ?_
        refine mm_iload_n dX12_doUnit_247 rfl 6 rfl ?_
        refine mm_iconst (v := nI 1) dX12_doUnit_248 (by decide) ?_
        refine mn_iadd dX12_doUnit_249 ?_
        refine mm_iload_n dX12_doUnit_250 rfl 7 rfl ?_
        refine mm_iload dX12_doUnit_251 2 rfl ?_
        refine mm_aload_n dX12_doUnit_253 rfl 5 rfl ?_
        refine rm_getI 28 dX12_doUnit_254 tk.1 zf_takenRank (by decide) rfl rfl ?_
        refine mn_top (u := .int (nI (q))) (congrArg Value.int ((tk.2.2.2.1.2.2.2.2.2.2.2.1))) ?_
        refine mm_iload dX12_doUnit_257 1 rfl ?_
        refine mn_idiv dX12_doUnit_259 (by omega) (by omega) (by omega) ?_
        refine mm_iload dX12_doUnit_260 0 rfl ?_
        refine mn_idiv dX12_doUnit_262 (by omega) (by omega) (by omega) ?_
        refine rm_callV (As := [.int (nI (0)), .int (nI ((k) + (1))), .int (nI (a)), .int (nI (e.2.1)), .int (nI (((q) / (tb_w T (0) ((k) + (1)) (e.2.2.1) (b - 1))) / (tb_w T (0) ((k) + (1)) (e.2.1) (e.2.2.1))))]) (rest := []) (d2 := 0) dX12_doUnit_263 tk.1 zc_push zc_push_s rfl rfl rfl (Nat.le_of_ble_eq_true rfl) (Nat.le_of_ble_eq_true rfl) (by decide) (tm_push tk (by (try simp only [op_t, op_p, op_l, op_3, List.length_append, List.length_cons, List.length_nil]); omega)) (fun r h1 hq => ?_)
        obtain ⟨rfl, F1, A1, tk, hf', hF', hA'⟩ := hq
        have hf := hf.tr hf'
        have hF := hF.tr hF'
        have hA := hA.tr hA'
        refine mm_goto (tgt := 367) dX12_doUnit_266 (by decide) ?_
        exact mm_vret dX12_doUnit_367 rfl (⟨rfl, _, _, _, tk, hf, hF, hA⟩)
      · rw [op_v7 v1]
        refine mn_top (u := .int (nI (7))) (congrArg Value.int (congrArg nI (v1))) ?_
        refine mm_tableIn (tgt := 269) (off := 203) dX12_doUnit_66 (by decide) (by decide) (by decide) (by decide) ?_
        refine mm_aload_n dX12_doUnit_269 rfl 3 rfl ?_
        refine mm_iload_n dX12_doUnit_270 rfl 5 rfl ?_
        refine mm_iconst (v := nI 2) dX12_doUnit_271 (by decide) ?_
        refine mm_aload_n dX12_doUnit_272 rfl 3 rfl ?_
        refine mm_iload_n dX12_doUnit_273 rfl 4 rfl ?_
        refine mm_iconst (v := nI 1) dX12_doUnit_274 (by decide) ?_
        refine mn_iadd dX12_doUnit_275 ?_
        refine rm_callVr (As := [.int (nI ((k) + (1)))]) (rest := [.int (nI (2)), .int (nI (a)), .ref (o)]) (d2 := 2) dX12_doUnit_276 tk.1 zc_full zc_full_s rfl rfl rfl (Nat.le_of_ble_eq_true rfl) (Nat.le_of_ble_eq_true rfl) (by decide) (tm_full tk.1 tk.2.1 (by omega)) ?_
        have fb279 := fl_b sg tk.2.1.2.1.2 ((k) + (1)) (by omega)
        refine mn_imul dX12_doUnit_279 ?_
        refine rm_callV (As := [.int (nI (a)), .int (nI ((2) * (fl_ sg ((k) + (1)))))]) (rest := []) (d2 := 0) dX12_doUnit_280 tk.1 zc_last zc_last_s rfl rfl rfl (Nat.le_of_ble_eq_true rfl) (Nat.le_of_ble_eq_true rfl) (by decide) (tm_last tk (by omega)) (fun r h1 hq => ?_)
        obtain ⟨rfl, F1, A1, tk, hf', hF', hA'⟩ := hq
        have hf := hf.tr hf'
        have hF := hF.tr hF'
        have hA := hA.tr hA'
        refine mm_aload_n dX12_doUnit_283 rfl 3 rfl ?_
        refine mm_iconst (v := nI 0) dX12_doUnit_284 (by decide) ?_
        refine mm_iload_n dX12_doUnit_285 rfl 4 rfl ?_
        refine mm_iconst (v := nI 1) dX12_doUnit_286 (by decide) ?_
        refine mn_iadd dX12_doUnit_287 ?_
        refine mm_iload_n dX12_doUnit_288 rfl 5 rfl ?_
        refine mm_iconst (v := nI 1) dX12_doUnit_289 (by decide) ?_
        refine mn_iadd dX12_doUnit_290 ?_
        refine mm_iload dX12_doUnit_291 1 rfl ?_
        refine mm_aload_n dX12_doUnit_293 rfl 3 rfl ?_
        refine rm_getI 28 dX12_doUnit_294 tk.1 zf_takenRank (by decide) rfl rfl ?_
        refine mn_top (u := .int (nI (q))) (congrArg Value.int ((tk.2.2.2.1.2.2.2.2.2.2.2.1))) ?_
        refine rm_callV (As := [.int (nI (0)), .int (nI ((k) + (1))), .int (nI ((a) + (1))), .int (nI (b - 1)), .int (nI (q))]) (rest := []) (d2 := 0) dX12_doUnit_297 tk.1 zc_push zc_push_s rfl rfl rfl (Nat.le_of_ble_eq_true rfl) (Nat.le_of_ble_eq_true rfl) (by decide) (tm_push tk (by (try simp only [op_t, op_p, op_l, op_3, List.length_append, List.length_cons, List.length_nil]); omega)) (fun r h1 hq => ?_)
        obtain ⟨rfl, F1, A1, tk, hf', hF', hA'⟩ := hq
        have hf := hf.tr hf'
        have hF := hF.tr hF'
        have hA := hA.tr hA'
        refine mm_goto (tgt := 367) dX12_doUnit_300 (by decide) ?_
        exact mm_vret dX12_doUnit_367 rfl (⟨rfl, _, _, _, tk, hf, hF, hA⟩)
      · rcases v1 with v1 | v1
        · rw [op_v8 v1]
          refine mn_top (u := .int (nI (8))) (congrArg Value.int (congrArg nI (v1))) ?_
          refine mm_tableIn (tgt := 303) (off := 237) dX12_doUnit_66 (by decide) (by decide) (by decide) (by decide) ?_
          refine mm_aload_n dX12_doUnit_303 rfl 3 rfl ?_
          refine mm_iload dX12_doUnit_304 0 rfl ?_
          refine mm_iconst (v := nI 2) dX12_doUnit_306 (by decide) ?_
          refine mm_aload_n dX12_doUnit_307 rfl 3 rfl ?_
          refine mm_iload_n dX12_doUnit_308 rfl 4 rfl ?_
          refine mm_iconst (v := nI 1) dX12_doUnit_309 (by decide) ?_
          refine mn_iadd dX12_doUnit_310 ?_
          refine rm_callVr (As := [.int (nI ((k) + (1)))]) (rest := [.int (nI (2)), .int (nI (e.2.1)), .ref (o)]) (d2 := 2) dX12_doUnit_311 tk.1 zc_full zc_full_s rfl rfl rfl (Nat.le_of_ble_eq_true rfl) (Nat.le_of_ble_eq_true rfl) (by decide) (tm_full tk.1 tk.2.1 (by omega)) ?_
          have fb314 := fl_b sg tk.2.1.2.1.2 ((k) + (1)) (by omega)
          refine mn_imul dX12_doUnit_314 ?_
          refine rm_callV (As := [.int (nI (e.2.1)), .int (nI ((2) * (fl_ sg ((k) + (1)))))]) (rest := []) (d2 := 0) dX12_doUnit_315 tk.1 zc_last zc_last_s rfl rfl rfl (Nat.le_of_ble_eq_true rfl) (Nat.le_of_ble_eq_true rfl) (by decide) (tm_last tk (by omega)) (fun r h1 hq => ?_)
          obtain ⟨rfl, F1, A1, tk, hf', hF', hA'⟩ := hq
          have hf := hf.tr hf'
          have hF := hF.tr hF'
          have hA := hA.tr hA'
          refine mm_aload_n dX12_doUnit_318 rfl 3 rfl ?_
          refine mm_iconst (v := nI 0) dX12_doUnit_319 (by decide) ?_
          refine mm_iload_n dX12_doUnit_320 rfl 4 rfl ?_
          refine mm_iconst (v := nI 1) dX12_doUnit_321 (by decide) ?_
          refine mn_iadd dX12_doUnit_322 ?_
          refine mm_iload_n dX12_doUnit_323 rfl 5 rfl ?_
          refine mm_iload dX12_doUnit_324 0 rfl ?_
          refine mm_aload_n dX12_doUnit_326 rfl 3 rfl ?_
          refine rm_getI 28 dX12_doUnit_327 tk.1 zf_takenRank (by decide) rfl rfl ?_
          refine mn_top (u := .int (nI (q))) (congrArg Value.int ((tk.2.2.2.1.2.2.2.2.2.2.2.1))) ?_
          refine rm_callV (As := [.int (nI (0)), .int (nI ((k) + (1))), .int (nI (a)), .int (nI (e.2.1)), .int (nI (q))]) (rest := []) (d2 := 0) dX12_doUnit_330 tk.1 zc_push zc_push_s rfl rfl rfl (Nat.le_of_ble_eq_true rfl) (Nat.le_of_ble_eq_true rfl) (by decide) (tm_push tk (by (try simp only [op_t, op_p, op_l, op_3, List.length_append, List.length_cons, List.length_nil]); omega)) (fun r h1 hq => ?_)
          obtain ⟨rfl, F1, A1, tk, hf', hF', hA'⟩ := hq
          have hf := hf.tr hf'
          have hF := hF.tr hF'
          have hA := hA.tr hA'
          refine mm_goto (tgt := 367) dX12_doUnit_333 (by decide) ?_
          exact mm_vret dX12_doUnit_367 rfl (⟨rfl, _, _, _, tk, hf, hF, hA⟩)
        · rw [op_v9 v1]
          refine mn_top (u := .int (nI (9))) (congrArg Value.int (congrArg nI (v1))) ?_
          refine mm_tableIn (tgt := 303) (off := 237) dX12_doUnit_66 (by decide) (by decide) (by decide) (by decide) ?_
          refine mm_aload_n dX12_doUnit_303 rfl 3 rfl ?_
          refine mm_iload dX12_doUnit_304 0 rfl ?_
          refine mm_iconst (v := nI 2) dX12_doUnit_306 (by decide) ?_
          refine mm_aload_n dX12_doUnit_307 rfl 3 rfl ?_
          refine mm_iload_n dX12_doUnit_308 rfl 4 rfl ?_
          refine mm_iconst (v := nI 1) dX12_doUnit_309 (by decide) ?_
          refine mn_iadd dX12_doUnit_310 ?_
          refine rm_callVr (As := [.int (nI ((k) + (1)))]) (rest := [.int (nI (2)), .int (nI (e.2.1)), .ref (o)]) (d2 := 2) dX12_doUnit_311 tk.1 zc_full zc_full_s rfl rfl rfl (Nat.le_of_ble_eq_true rfl) (Nat.le_of_ble_eq_true rfl) (by decide) (tm_full tk.1 tk.2.1 (by omega)) ?_
          have fb314 := fl_b sg tk.2.1.2.1.2 ((k) + (1)) (by omega)
          refine mn_imul dX12_doUnit_314 ?_
          refine rm_callV (As := [.int (nI (e.2.1)), .int (nI ((2) * (fl_ sg ((k) + (1)))))]) (rest := []) (d2 := 0) dX12_doUnit_315 tk.1 zc_last zc_last_s rfl rfl rfl (Nat.le_of_ble_eq_true rfl) (Nat.le_of_ble_eq_true rfl) (by decide) (tm_last tk (by omega)) (fun r h1 hq => ?_)
          obtain ⟨rfl, F1, A1, tk, hf', hF', hA'⟩ := hq
          have hf := hf.tr hf'
          have hF := hF.tr hF'
          have hA := hA.tr hA'
          refine mm_aload_n dX12_doUnit_318 rfl 3 rfl ?_
          refine mm_iconst (v := nI 0) dX12_doUnit_319 (by decide) ?_
          refine mm_iload_n dX12_doUnit_320 rfl 4 rfl ?_
          refine mm_iconst (v := nI 1) dX12_doUnit_321 (by decide) ?_
          refine mn_iadd dX12_doUnit_322 ?_
          refine mm_iload_n dX12_doUnit_323 rfl 5 rfl ?_
          refine mm_iload dX12_doUnit_324 0 rfl ?_
          refine mm_aload_n dX12_doUnit_326 rfl 3 rfl ?_
          refine rm_getI 28 dX12_doUnit_327 tk.1 zf_takenRank (by decide) rfl rfl ?_
          refine mn_top (u := .int (nI (q))) (congrArg Value.int ((tk.2.2.2.1.2.2.2.2.2.2.2.1))) ?_
          refine rm_callV (As := [.int (nI (0)), .int (nI ((k) + (1))), .int (nI (a)), .int (nI (e.2.1)), .int (nI (q))]) (rest := []) (d2 := 0) dX12_doUnit_330 tk.1 zc_push zc_push_s rfl rfl rfl (Nat.le_of_ble_eq_true rfl) (Nat.le_of_ble_eq_true rfl) (by decide) (tm_push tk (by (try simp only [op_t, op_p, op_l, op_3, List.length_append, List.length_cons, List.length_nil]); omega)) (fun r h1 hq => ?_)
          obtain ⟨rfl, F1, A1, tk, hf', hF', hA'⟩ := hq
          have hf := hf.tr hf'
          have hF := hF.tr hF'
          have hA := hA.tr hA'
          refine mm_goto (tgt := 367) dX12_doUnit_333 (by decide) ?_
          exact mm_vret dX12_doUnit_367 rfl (⟨rfl, _, _, _, tk, hf, hF, hA⟩)
      · rw [op_v10 v1]
        refine mn_top (u := .int (nI (10))) (congrArg Value.int (congrArg nI (v1))) ?_
        refine mm_tableIn (tgt := 336) (off := 270) dX12_doUnit_66 (by decide) (by decide) (by decide) (by decide) ?_
        refine mm_aload_n dX12_doUnit_336 rfl 3 rfl ?_
        refine mm_iconst (v := nI 0) dX12_doUnit_337 (by decide) ?_
        refine mm_iload_n dX12_doUnit_338 rfl 5 rfl ?_
        refine mm_iload dX12_doUnit_339 0 rfl ?_
        refine mm_iconst (v := nI 1) dX12_doUnit_341 (by decide) ?_
        refine mm_iload dX12_doUnit_342 1 rfl ?_
        refine mm_iload_n dX12_doUnit_344 rfl 4 rfl ?_
        refine mm_iconst (v := nI 1) dX12_doUnit_345 (by decide) ?_
        refine mn_iadd dX12_doUnit_346 ?_
        refine rm_callV (As := [.int (nI (0)), .int (nI (a)), .int (nI (e.2.1)), .int (nI (1)), .int (nI (b - 1)), .int (nI ((k) + (1)))]) (rest := []) (d2 := 1) dX12_doUnit_347 tk.1 zc_pushTwo zc_pushTwo_s rfl rfl rfl (Nat.le_of_ble_eq_true rfl) (Nat.le_of_ble_eq_true rfl) (by decide) (tm_pushTwo tk (by omega) (by omega) (by omega) (by omega) (by assumption) (by show q < 2 ^ 31; omega) (by (try simp only [op_t, op_p, op_l, op_3, List.length_append, List.length_cons, List.length_nil]); omega) (by (try simp only [op_t, op_p, op_l, op_3, List.length_append, List.length_cons, List.length_nil]); omega)) (fun r h1 hq => ?_)
        obtain ⟨rfl, F1, A1, tk, hf', hF', hA'⟩ := hq
        have hf := hf.tr hf'
        have hF := hF.tr hF'
        have hA := hA.tr hA'
        refine mm_goto (tgt := 367) dX12_doUnit_350 (by decide) ?_
        exact mm_vret dX12_doUnit_367 rfl (⟨rfl, _, _, _, tk, hf, hF, hA⟩)
      · rw [op_v11 v1]
        refine mn_top (u := .int (nI (11))) (congrArg Value.int (congrArg nI (v1))) ?_
        refine mm_tableOut (tgt := 353) dX12_doUnit_66 (Or.inr (by decide)) (by decide) ?_
        refine mm_aload_n dX12_doUnit_353 rfl 3 rfl ?_
        refine mm_iconst (v := nI 1) dX12_doUnit_354 (by decide) ?_
        refine mm_iload_n dX12_doUnit_355 rfl 5 rfl ?_
        refine mm_iload dX12_doUnit_356 0 rfl ?_
        refine mm_iconst (v := nI 0) dX12_doUnit_358 (by decide) ?_
        refine mm_iload dX12_doUnit_359 1 rfl ?_
        refine mm_iload_n dX12_doUnit_361 rfl 4 rfl ?_
        refine mm_iconst (v := nI 1) dX12_doUnit_362 (by decide) ?_
        refine mn_iadd dX12_doUnit_363 ?_
        refine rm_callV (As := [.int (nI (1)), .int (nI (a)), .int (nI (e.2.1)), .int (nI (0)), .int (nI (b - 1)), .int (nI ((k) + (1)))]) (rest := []) (d2 := 1) dX12_doUnit_364 tk.1 zc_pushTwo zc_pushTwo_s rfl rfl rfl (Nat.le_of_ble_eq_true rfl) (Nat.le_of_ble_eq_true rfl) (by decide) (tm_pushTwo tk (by omega) (by omega) (by omega) (by omega) (by assumption) (by show q < 2 ^ 31; omega) (by (try simp only [op_t, op_p, op_l, op_3, List.length_append, List.length_cons, List.length_nil]); omega) (by (try simp only [op_t, op_p, op_l, op_3, List.length_append, List.length_cons, List.length_nil]); omega)) (fun r h1 hq => ?_)
        obtain ⟨rfl, F1, A1, tk, hf', hF', hA'⟩ := hq
        have hf := hf.tr hf'
        have hF := hF.tr hF'
        have hA := hA.tr hA'
        exact mm_vret dX12_doUnit_367 rfl (⟨rfl, _, _, _, tk, hf, hF, hA⟩)
