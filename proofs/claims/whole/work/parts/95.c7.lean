/-! Spans: symbols by sorts; all of the tables -/
theorem if_24 {b : Prop} [Decidable b] {x : Nat} (h : x < 2 ^ 24) : (if b then x else 0) < 2 ^ 24 := by
  split
  · exact h
  · exact Nat.two_pow_pos 24
set_option maxRecDepth 100000 in
set_option maxHeartbeats 4000000 in
theorem cs_sortSymbol {l : Launch} {D : va_G} {aa : Nat → ClassId} {b0 : Nat} {h : mm_H} {o : Nat} {X : Nat → Nat → Int32} {Y : Nat → Nat → Int64} {rl : Option Nat} {a p nx sz dt : Nat} {w : ro_w} {E U P H PL RS CO AL LI : Nat → Nat} (ha : cm_at o X Y rl h) (hva : vA a) (hsp : sp_at X sz dt E U P H PL RS CO AL LI) (hw : vw_ X a w) (hp : p < w.1) (hsm : smp w (p + 1) dt PL RS CO AL LI) (hnx : nx = nx7 w p) (hn7 : nx ≤ 7) : mm_V (zz_K l D aa b0) 1 yX7_sortSymbol cX7_sortSymbol 6 none 0 [(0, .ref (o + 10)), (1, .ref (o + (a + 3))), (2, .int (nI (p))), (3, .int (nI (nx)))] [] h 0 0 (fun rv h' => rv = none ∧ ∃ (X' : Nat → Nat → Int32) (dt' : Nat) (PL' RS' CO' AL' LI' : Nat → Nat), cm_at o X' Y rl h' ∧ cm_fr o h h' ∧ spy X X' ∧ sp_at X' sz dt' E U P H PL' RS' CO' AL' LI' ∧ smp w p dt' PL' RS' CO' AL' LI') := by
  have hf := cm_fr.rf (o := o) (h := h)
  have h24 := hw.1.2
  have hi := hw.2 p hp
  have h7 : ∀ i, i < w.1 → w.2.2.1 i < 7 := fun i z => (hw.2 i z).2.2.2.1
  have hk7 := hi.2.2.2.1
  have hbp : (1 <<< p) < 2 ^ 24 := shl1_lt (by omega)
  by_cases hd : w.2.1 p = 3
  · have hdt := hsp.1.2
    refine mm_iconst (v := nI 1) dX7_sortSymbol_0 (by decide) ?_
    refine mm_iload_n dX7_sortSymbol_1 rfl 2 rfl ?_
    refine mn_ishl dX7_sortSymbol_2 (by omega) ?_
    refine mm_istore (L' := [(4, .int (nI ((1) <<< (p)))), (0, .ref (o + 10)), (1, .ref (o + (a + 3))), (2, .int (nI (p))), (3, .int (nI (nx)))]) dX7_sortSymbol_3 (by decide) rfl ?_
    refine mm_aload_n dX7_sortSymbol_5 rfl 2 rfl ?_
    refine mm_iload_n dX7_sortSymbol_6 rfl 3 rfl ?_
    refine cm_callVr (As := [.int (nI (p))]) (rest := []) (d2 := 0) dX7_sortSymbol_7 ha (vA_lt hva 3 (by decide)) (vA_3 hva) zz_clX6 zc_X7_63 zs_X6_kindAt rfl rfl (Nat.le_of_ble_eq_true rfl) (Nat.le_of_ble_eq_true rfl) (by decide) (cr_kindAt ha (vr_A hva) hw.1.1 h24 (by omega)) ?_
    refine mn_top (u := .int ((-1))) (congrArg Value.int (by rw [if_pos hp]; exact hi.2.2.1.trans (if_pos hd))) ?_
    refine mm_istore (L' := [(5, .int ((-1))), (4, .int (nI ((1) <<< (p)))), (0, .ref (o + 10)), (1, .ref (o + (a + 3))), (2, .int (nI (p))), (3, .int (nI (nx)))]) dX7_sortSymbol_10 (by decide) rfl ?_
    refine mm_aload_n dX7_sortSymbol_12 rfl 3 rfl ?_
    refine mm_iload_n dX7_sortSymbol_13 rfl 4 rfl ?_
    refine cm_callVr (As := [.int (nI (p))]) (rest := []) (d2 := 0) dX7_sortSymbol_14 ha (vA_lt hva 3 (by decide)) (vA_3 hva) zz_clX6 zc_X7_59 zs_X6_sortAt rfl rfl (Nat.le_of_ble_eq_true rfl) (Nat.le_of_ble_eq_true rfl) (by decide) (cr_sortAt ha (vr_A hva) hw.1.1 h24 (by omega)) ?_
    refine mn_top (u := .int (nI (w.2.1 p))) (congrArg Value.int (by rw [if_pos hp]; exact hi.1)) ?_
    refine mm_iconst (v := nI 3) dX7_sortSymbol_17 (by decide) ?_
    refine mn_icmp_ne (tgt := 35) dX7_sortSymbol_18 (by decide) (by omega) (by omega) (fun c18 => ?_) (fun c18 => ?_)
    · exact absurd hd c18
    · refine mm_aload_n dX7_sortSymbol_21 rfl 2 rfl ?_
      refine mm_dup dX7_sortSymbol_22 rfl ?_
      refine cm_getI dX7_sortSymbol_23 ha zr_X7_93 (by decide) rfl rfl ?_
      refine mn_top (u := .int (nI (dt))) (congrArg Value.int ((hdt.1))) ?_
      refine mm_iload dX7_sortSymbol_26 1 rfl ?_
      refine mn_ior dX7_sortSymbol_28 ?_
      refine cm_putI dX7_sortSymbol_29 ha hf zp_X7_93 (by decide) rfl rfl rfl rfl (fun h ha hf => ?_)
      refine mm_goto (tgt := 162) dX7_sortSymbol_32 (by decide) ?_
      exact mm_vret dX7_sortSymbol_162 rfl (⟨rfl, _, _, PL, RS, CO, AL, LI, ha, hf, spy.rf.up (by decide), sp_D hsp (mk_or_lt hdt.2 hbp), smp_dot hsm (by unfold ro_dot; rw [decide_eq_true hp, decide_eq_true hd]; rfl)⟩)
  · by_cases hs2 : w.2.1 p = 2
    · refine mm_iconst (v := nI 1) dX7_sortSymbol_0 (by decide) ?_
      refine mm_iload_n dX7_sortSymbol_1 rfl 2 rfl ?_
      refine mn_ishl dX7_sortSymbol_2 (by omega) ?_
      refine mm_istore (L' := [(4, .int (nI ((1) <<< (p)))), (0, .ref (o + 10)), (1, .ref (o + (a + 3))), (2, .int (nI (p))), (3, .int (nI (nx)))]) dX7_sortSymbol_3 (by decide) rfl ?_
      refine mm_aload_n dX7_sortSymbol_5 rfl 2 rfl ?_
      refine mm_iload_n dX7_sortSymbol_6 rfl 3 rfl ?_
      refine cm_callVr (As := [.int (nI (p))]) (rest := []) (d2 := 0) dX7_sortSymbol_7 ha (vA_lt hva 3 (by decide)) (vA_3 hva) zz_clX6 zc_X7_63 zs_X6_kindAt rfl rfl (Nat.le_of_ble_eq_true rfl) (Nat.le_of_ble_eq_true rfl) (by decide) (cr_kindAt ha (vr_A hva) hw.1.1 h24 (by omega)) ?_
      refine mn_top (u := .int (nI (w.2.2.1 p))) (congrArg Value.int (by rw [if_pos hp]; exact hi.2.2.1.trans (if_neg (by omega)))) ?_
      refine mm_istore (L' := [(5, .int (nI (w.2.2.1 p))), (4, .int (nI ((1) <<< (p)))), (0, .ref (o + 10)), (1, .ref (o + (a + 3))), (2, .int (nI (p))), (3, .int (nI (nx)))]) dX7_sortSymbol_10 (by decide) rfl ?_
      refine mm_aload_n dX7_sortSymbol_12 rfl 3 rfl ?_
      refine mm_iload_n dX7_sortSymbol_13 rfl 4 rfl ?_
      refine cm_callVr (As := [.int (nI (p))]) (rest := []) (d2 := 0) dX7_sortSymbol_14 ha (vA_lt hva 3 (by decide)) (vA_3 hva) zz_clX6 zc_X7_59 zs_X6_sortAt rfl rfl (Nat.le_of_ble_eq_true rfl) (Nat.le_of_ble_eq_true rfl) (by decide) (cr_sortAt ha (vr_A hva) hw.1.1 h24 (by omega)) ?_
      refine mn_top (u := .int (nI (w.2.1 p))) (congrArg Value.int (by rw [if_pos hp]; exact hi.1)) ?_
      refine mm_iconst (v := nI 3) dX7_sortSymbol_17 (by decide) ?_
      refine mn_icmp_ne (tgt := 35) dX7_sortSymbol_18 (by decide) (by omega) (by omega) (fun c18 => ?_) (fun c18 => ?_)
      · refine mm_iload dX7_sortSymbol_35 0 rfl ?_
        refine cm_callSN (As := [.int (nI (w.2.2.1 p))]) (rest := []) (d2 := 0) dX7_sortSymbol_37 zc_X7_102 rfl rfl (Nat.le_of_ble_eq_true rfl) (Nat.le_of_ble_eq_true rfl) (by decide) (ck_isKind (by omega)) ?_
        refine mn_ifB_eq (tgt := 67) dX7_sortSymbol_40 (by decide) (fun c40 => ?_) (fun c40 => ?_)
        · exact absurd (of_decide_eq_false c40) (by omega)
        · refine mm_aload_n dX7_sortSymbol_43 rfl 3 rfl ?_
          refine mm_iload_n dX7_sortSymbol_44 rfl 4 rfl ?_
          refine cm_callVr (As := [.int (nI (p))]) (rest := []) (d2 := 0) dX7_sortSymbol_45 ha (vA_lt hva 3 (by decide)) (vA_3 hva) zz_clX6 zc_X7_59 zs_X6_sortAt rfl rfl (Nat.le_of_ble_eq_true rfl) (Nat.le_of_ble_eq_true rfl) (by decide) (cr_sortAt ha (vr_A hva) hw.1.1 h24 (by omega)) ?_
          refine mn_top (u := .int (nI (w.2.1 p))) (congrArg Value.int (by rw [if_pos hp]; exact hi.1)) ?_
          refine mm_iconst (v := nI 2) dX7_sortSymbol_48 (by decide) ?_
          refine mn_icmp_ne (tgt := 67) dX7_sortSymbol_49 (by decide) (by omega) (by omega) (fun c49 => ?_) (fun c49 => ?_)
          · exact absurd hs2 c49
          · refine mm_aload_n dX7_sortSymbol_52 rfl 2 rfl ?_
            refine cm_getR (b := 16) dX7_sortSymbol_53 ha zr_X7_27 (by decide) rfl rfl rfl ?_
            refine mm_iload dX7_sortSymbol_56 0 rfl ?_
            refine mm_dup2 dX7_sortSymbol_58 rfl rfl ?_
            refine cm_iald (i := w.2.2.1 p) dX7_sortSymbol_59 ha (by decide) rfl (by omega) (by decide) ?_
            refine mn_top (u := .int (nI (RS (w.2.2.1 p)))) (congrArg Value.int (by first | exact (hsp.2.2.1.2.1 (w.2.2.1 p) hk7).1 | exact (xu_a (by decide)).trans (hsp.2.2.1.2.1 (w.2.2.1 p) hk7).1 | exact (xu_a (by decide)).trans ((xu_a (by decide)).trans (hsp.2.2.1.2.1 (w.2.2.1 p) hk7).1))) ?_
            refine mm_iload dX7_sortSymbol_60 1 rfl ?_
            refine mn_ior dX7_sortSymbol_62 ?_
            refine cm_iast (i := w.2.2.1 p) dX7_sortSymbol_63 ha hf (by decide) rfl hk7 (by decide) (fun h ha hf => ?_)
            refine mm_goto (tgt := 162) dX7_sortSymbol_64 (by decide) ?_
            exact mm_vret dX7_sortSymbol_162 rfl (⟨rfl, _, dt, PL, _, CO, AL, LI, ha, hf, spy.rf.up (by decide), sp_RS hsp (mk_or_lt (hsp.2.2.2.1 _ hk7).2.1 hbp), smp_rest hsm hp hs2 rfl hk7⟩)
      · exact absurd (show w.2.1 p = 3 from by omega) hd
    · have hs1 : w.2.1 p = 1 := by omega
      have hcc : ∀ j, j < w.1 → X (a + 3 + 4) j = nI (Bool.toNat (w.2.2.2 j)) := fun j hj => (hw.2 j hj).2.2.2.2.1
      refine mm_iconst (v := nI 1) dX7_sortSymbol_0 (by decide) ?_
      refine mm_iload_n dX7_sortSymbol_1 rfl 2 rfl ?_
      refine mn_ishl dX7_sortSymbol_2 (by omega) ?_
      refine mm_istore (L' := [(4, .int (nI ((1) <<< (p)))), (0, .ref (o + 10)), (1, .ref (o + (a + 3))), (2, .int (nI (p))), (3, .int (nI (nx)))]) dX7_sortSymbol_3 (by decide) rfl ?_
      refine mm_aload_n dX7_sortSymbol_5 rfl 2 rfl ?_
      refine mm_iload_n dX7_sortSymbol_6 rfl 3 rfl ?_
      refine cm_callVr (As := [.int (nI (p))]) (rest := []) (d2 := 0) dX7_sortSymbol_7 ha (vA_lt hva 3 (by decide)) (vA_3 hva) zz_clX6 zc_X7_63 zs_X6_kindAt rfl rfl (Nat.le_of_ble_eq_true rfl) (Nat.le_of_ble_eq_true rfl) (by decide) (cr_kindAt ha (vr_A hva) hw.1.1 h24 (by omega)) ?_
      refine mn_top (u := .int (nI (w.2.2.1 p))) (congrArg Value.int (by rw [if_pos hp]; exact hi.2.2.1.trans (if_neg (by omega)))) ?_
      refine mm_istore (L' := [(5, .int (nI (w.2.2.1 p))), (4, .int (nI ((1) <<< (p)))), (0, .ref (o + 10)), (1, .ref (o + (a + 3))), (2, .int (nI (p))), (3, .int (nI (nx)))]) dX7_sortSymbol_10 (by decide) rfl ?_
      refine mm_aload_n dX7_sortSymbol_12 rfl 3 rfl ?_
      refine mm_iload_n dX7_sortSymbol_13 rfl 4 rfl ?_
      refine cm_callVr (As := [.int (nI (p))]) (rest := []) (d2 := 0) dX7_sortSymbol_14 ha (vA_lt hva 3 (by decide)) (vA_3 hva) zz_clX6 zc_X7_59 zs_X6_sortAt rfl rfl (Nat.le_of_ble_eq_true rfl) (Nat.le_of_ble_eq_true rfl) (by decide) (cr_sortAt ha (vr_A hva) hw.1.1 h24 (by omega)) ?_
      refine mn_top (u := .int (nI (w.2.1 p))) (congrArg Value.int (by rw [if_pos hp]; exact hi.1)) ?_
      refine mm_iconst (v := nI 3) dX7_sortSymbol_17 (by decide) ?_
      refine mn_icmp_ne (tgt := 35) dX7_sortSymbol_18 (by decide) (by omega) (by omega) (fun c18 => ?_) (fun c18 => ?_)
      · refine mm_iload dX7_sortSymbol_35 0 rfl ?_
        refine cm_callSN (As := [.int (nI (w.2.2.1 p))]) (rest := []) (d2 := 0) dX7_sortSymbol_37 zc_X7_102 rfl rfl (Nat.le_of_ble_eq_true rfl) (Nat.le_of_ble_eq_true rfl) (by decide) (ck_isKind (by omega)) ?_
        refine mn_ifB_eq (tgt := 67) dX7_sortSymbol_40 (by decide) (fun c40 => ?_) (fun c40 => ?_)
        · exact absurd (of_decide_eq_false c40) (by omega)
        · refine mm_aload_n dX7_sortSymbol_43 rfl 3 rfl ?_
          refine mm_iload_n dX7_sortSymbol_44 rfl 4 rfl ?_
          refine cm_callVr (As := [.int (nI (p))]) (rest := []) (d2 := 0) dX7_sortSymbol_45 ha (vA_lt hva 3 (by decide)) (vA_3 hva) zz_clX6 zc_X7_59 zs_X6_sortAt rfl rfl (Nat.le_of_ble_eq_true rfl) (Nat.le_of_ble_eq_true rfl) (by decide) (cr_sortAt ha (vr_A hva) hw.1.1 h24 (by omega)) ?_
          refine mn_top (u := .int (nI (w.2.1 p))) (congrArg Value.int (by rw [if_pos hp]; exact hi.1)) ?_
          refine mm_iconst (v := nI 2) dX7_sortSymbol_48 (by decide) ?_
          refine mn_icmp_ne (tgt := 67) dX7_sortSymbol_49 (by decide) (by omega) (by omega) (fun c49 => ?_) (fun c49 => ?_)
          · refine mm_iload dX7_sortSymbol_67 0 rfl ?_
            refine cm_callSN (As := [.int (nI (w.2.2.1 p))]) (rest := []) (d2 := 0) dX7_sortSymbol_69 zc_X7_102 rfl rfl (Nat.le_of_ble_eq_true rfl) (Nat.le_of_ble_eq_true rfl) (by decide) (ck_isKind (by omega)) ?_
            refine mn_ifB_eq (tgt := 98) dX7_sortSymbol_72 (by decide) (fun c72 => ?_) (fun c72 => ?_)
            · exact absurd (of_decide_eq_false c72) (by omega)
            · refine mm_aload_n dX7_sortSymbol_75 rfl 3 rfl ?_
              refine mm_iload_n dX7_sortSymbol_76 rfl 4 rfl ?_
              refine cm_callVr (As := [.int (nI (p))]) (rest := []) (d2 := 0) dX7_sortSymbol_77 ha (vA_lt hva 3 (by decide)) (vA_3 hva) zz_clX6 zc_X7_105 zs_X6_isColouredAt rfl rfl (Nat.le_of_ble_eq_true rfl) (Nat.le_of_ble_eq_true rfl) (by decide) (cr_isColouredAt ha (vr_A hva) hw.1.1 h24 (by omega) hcc) ?_
              refine mn_top (u := .int (nI (Bool.toNat (w.2.2.2 p)))) (congrArg Value.int (by rw [decide_eq_true hp, Bool.true_and])) ?_
              refine mn_ifB_eq (tgt := 98) dX7_sortSymbol_80 (by decide) (fun c80 => ?_) (fun c80 => ?_)
              · refine mm_iload dX7_sortSymbol_98 0 rfl ?_
                refine cm_callSN (As := [.int (nI (w.2.2.1 p))]) (rest := []) (d2 := 0) dX7_sortSymbol_100 zc_X7_102 rfl rfl (Nat.le_of_ble_eq_true rfl) (Nat.le_of_ble_eq_true rfl) (by decide) (ck_isKind (by omega)) ?_
                refine mn_ifB_eq (tgt := 162) dX7_sortSymbol_103 (by decide) (fun c103 => ?_) (fun c103 => ?_)
                · exact absurd (of_decide_eq_false c103) (by omega)
                · refine mm_aload_n dX7_sortSymbol_106 rfl 2 rfl ?_
                  refine cm_getR (b := 15) dX7_sortSymbol_107 ha zr_X7_24 (by decide) rfl rfl rfl ?_
                  refine mm_iload dX7_sortSymbol_110 0 rfl ?_
                  refine mm_dup2 dX7_sortSymbol_112 rfl rfl ?_
                  refine cm_iald (i := w.2.2.1 p) dX7_sortSymbol_113 ha (by decide) rfl (by omega) (by decide) ?_
                  refine mn_top (u := .int (nI (PL (w.2.2.1 p)))) (congrArg Value.int (by first | exact (hsp.2.2.1.1 (w.2.2.1 p) hk7).1 | exact (xu_a (by decide)).trans (hsp.2.2.1.1 (w.2.2.1 p) hk7).1 | exact (xu_a (by decide)).trans ((xu_a (by decide)).trans (hsp.2.2.1.1 (w.2.2.1 p) hk7).1))) ?_
                  refine mm_iload dX7_sortSymbol_114 1 rfl ?_
                  refine mn_ior dX7_sortSymbol_116 ?_
                  refine cm_iast (i := w.2.2.1 p) dX7_sortSymbol_117 ha hf (by decide) rfl hk7 (by decide) (fun h ha hf => ?_)
                  refine mm_aload_n dX7_sortSymbol_118 rfl 2 rfl ?_
                  refine cm_getR (b := 18) dX7_sortSymbol_119 ha zr_X7_33 (by decide) rfl rfl rfl ?_
                  refine mm_iload dX7_sortSymbol_122 0 rfl ?_
                  refine mm_dup2 dX7_sortSymbol_124 rfl rfl ?_
                  refine cm_iald (i := w.2.2.1 p) dX7_sortSymbol_125 ha (by decide) rfl (by omega) (by decide) ?_
                  refine mn_top (u := .int (nI (AL (w.2.2.1 p)))) (congrArg Value.int (by first | exact (hsp.2.2.1.2.2.2.1 (w.2.2.1 p) hk7).1 | exact (xu_a (by decide)).trans (hsp.2.2.1.2.2.2.1 (w.2.2.1 p) hk7).1 | exact (xu_a (by decide)).trans ((xu_a (by decide)).trans (hsp.2.2.1.2.2.2.1 (w.2.2.1 p) hk7).1))) ?_
                  refine mm_iload_n dX7_sortSymbol_126 rfl 5 rfl ?_
                  refine mm_iload dX7_sortSymbol_127 0 rfl ?_
                  refine mn_icmp_ge (tgt := 137) dX7_sortSymbol_129 (by decide) (by omega) (by omega) (fun c129 => ?_) (fun c129 => ?_)
                  · refine mm_iconst (v := nI 0) dX7_sortSymbol_137 (by decide) ?_
                    refine mn_ior dX7_sortSymbol_138 ?_
                    refine mn_top (u := .int (nI (AL (w.2.2.1 p) ||| (if nx < w.2.2.1 p then 1 <<< p else 0)))) (congrArg Value.int (by rw [if_neg (by omega)])) ?_
                    refine cm_iast (i := w.2.2.1 p) dX7_sortSymbol_139 ha hf (by decide) rfl hk7 (by decide) (fun h ha hf => ?_)
                    refine mm_aload_n dX7_sortSymbol_140 rfl 2 rfl ?_
                    refine cm_getR (b := 19) dX7_sortSymbol_141 ha zr_X7_36 (by decide) rfl rfl rfl ?_
                    refine mm_iload dX7_sortSymbol_144 0 rfl ?_
                    refine mm_dup2 dX7_sortSymbol_146 rfl rfl ?_
                    refine cm_iald (i := w.2.2.1 p) dX7_sortSymbol_147 ha (by decide) rfl (by omega) (by decide) ?_
                    refine mn_top (u := .int (nI (LI (w.2.2.1 p)))) (congrArg Value.int (by first | exact (hsp.2.2.1.2.2.2.2 (w.2.2.1 p) hk7).1 | exact (xu_a (by decide)).trans (hsp.2.2.1.2.2.2.2 (w.2.2.1 p) hk7).1 | exact (xu_a (by decide)).trans ((xu_a (by decide)).trans (hsp.2.2.1.2.2.2.2 (w.2.2.1 p) hk7).1))) ?_
                    refine mm_iload_n dX7_sortSymbol_148 rfl 5 rfl ?_
                    refine mm_iload dX7_sortSymbol_149 0 rfl ?_
                    refine mn_icmp_eq (tgt := 159) dX7_sortSymbol_151 (by decide) (by omega) (by omega) (fun c151 => ?_) (fun c151 => ?_)
                    · refine mm_iconst (v := nI 0) dX7_sortSymbol_159 (by decide) ?_
                      refine mn_ior dX7_sortSymbol_160 ?_
                      refine mn_top (u := .int (nI (LI (w.2.2.1 p) ||| (if nx ≠ w.2.2.1 p then 1 <<< p else 0)))) (congrArg Value.int (by rw [if_neg (by omega)])) ?_
                      refine cm_iast (i := w.2.2.1 p) dX7_sortSymbol_161 ha hf (by decide) rfl hk7 (by decide) (fun h ha hf => ?_)
                      exact mm_vret dX7_sortSymbol_162 rfl (⟨rfl, _, dt, _, RS, CO, _, _, ha, hf, ((spy.rf.up (by decide)).up (by decide)).up (by decide), sp_LI (sp_AL (sp_PL hsp (mk_or_lt (hsp.2.2.2.1 _ hk7).1 hbp)) (mk_or_lt (hsp.2.2.2.1 _ hk7).2.2.2.1 (if_24 hbp))) (mk_or_lt (hsp.2.2.2.1 _ hk7).2.2.2.2 (if_24 hbp)), by subst hnx; exact smp_plain hsm hp hs1 c80 rfl hk7 h7⟩)
                    · refine mm_iload dX7_sortSymbol_154 1 rfl ?_
                      refine mm_goto (tgt := 160) dX7_sortSymbol_156 (by decide) ?_
                      refine mn_ior dX7_sortSymbol_160 ?_
                      refine mn_top (u := .int (nI (LI (w.2.2.1 p) ||| (if nx ≠ w.2.2.1 p then 1 <<< p else 0)))) (congrArg Value.int (by rw [if_pos (by omega)])) ?_
                      refine cm_iast (i := w.2.2.1 p) dX7_sortSymbol_161 ha hf (by decide) rfl hk7 (by decide) (fun h ha hf => ?_)
                      exact mm_vret dX7_sortSymbol_162 rfl (⟨rfl, _, dt, _, RS, CO, _, _, ha, hf, ((spy.rf.up (by decide)).up (by decide)).up (by decide), sp_LI (sp_AL (sp_PL hsp (mk_or_lt (hsp.2.2.2.1 _ hk7).1 hbp)) (mk_or_lt (hsp.2.2.2.1 _ hk7).2.2.2.1 (if_24 hbp))) (mk_or_lt (hsp.2.2.2.1 _ hk7).2.2.2.2 (if_24 hbp)), by subst hnx; exact smp_plain hsm hp hs1 c80 rfl hk7 h7⟩)
                  · refine mm_iload dX7_sortSymbol_132 1 rfl ?_
                    refine mm_goto (tgt := 138) dX7_sortSymbol_134 (by decide) ?_
                    refine mn_ior dX7_sortSymbol_138 ?_
                    refine mn_top (u := .int (nI (AL (w.2.2.1 p) ||| (if nx < w.2.2.1 p then 1 <<< p else 0)))) (congrArg Value.int (by rw [if_pos (by omega)])) ?_
                    refine cm_iast (i := w.2.2.1 p) dX7_sortSymbol_139 ha hf (by decide) rfl hk7 (by decide) (fun h ha hf => ?_)
                    refine mm_aload_n dX7_sortSymbol_140 rfl 2 rfl ?_
                    refine cm_getR (b := 19) dX7_sortSymbol_141 ha zr_X7_36 (by decide) rfl rfl rfl ?_
                    refine mm_iload dX7_sortSymbol_144 0 rfl ?_
                    refine mm_dup2 dX7_sortSymbol_146 rfl rfl ?_
                    refine cm_iald (i := w.2.2.1 p) dX7_sortSymbol_147 ha (by decide) rfl (by omega) (by decide) ?_
                    refine mn_top (u := .int (nI (LI (w.2.2.1 p)))) (congrArg Value.int (by first | exact (hsp.2.2.1.2.2.2.2 (w.2.2.1 p) hk7).1 | exact (xu_a (by decide)).trans (hsp.2.2.1.2.2.2.2 (w.2.2.1 p) hk7).1 | exact (xu_a (by decide)).trans ((xu_a (by decide)).trans (hsp.2.2.1.2.2.2.2 (w.2.2.1 p) hk7).1))) ?_
                    refine mm_iload_n dX7_sortSymbol_148 rfl 5 rfl ?_
                    refine mm_iload dX7_sortSymbol_149 0 rfl ?_
                    refine mn_icmp_eq (tgt := 159) dX7_sortSymbol_151 (by decide) (by omega) (by omega) (fun c151 => ?_) (fun c151 => ?_)
                    · refine mm_iconst (v := nI 0) dX7_sortSymbol_159 (by decide) ?_
                      refine mn_ior dX7_sortSymbol_160 ?_
                      refine mn_top (u := .int (nI (LI (w.2.2.1 p) ||| (if nx ≠ w.2.2.1 p then 1 <<< p else 0)))) (congrArg Value.int (by rw [if_neg (by omega)])) ?_
                      refine cm_iast (i := w.2.2.1 p) dX7_sortSymbol_161 ha hf (by decide) rfl hk7 (by decide) (fun h ha hf => ?_)
                      exact mm_vret dX7_sortSymbol_162 rfl (⟨rfl, _, dt, _, RS, CO, _, _, ha, hf, ((spy.rf.up (by decide)).up (by decide)).up (by decide), sp_LI (sp_AL (sp_PL hsp (mk_or_lt (hsp.2.2.2.1 _ hk7).1 hbp)) (mk_or_lt (hsp.2.2.2.1 _ hk7).2.2.2.1 (if_24 hbp))) (mk_or_lt (hsp.2.2.2.1 _ hk7).2.2.2.2 (if_24 hbp)), by subst hnx; exact smp_plain hsm hp hs1 c80 rfl hk7 h7⟩)
                    · refine mm_iload dX7_sortSymbol_154 1 rfl ?_
                      refine mm_goto (tgt := 160) dX7_sortSymbol_156 (by decide) ?_
                      refine mn_ior dX7_sortSymbol_160 ?_
                      refine mn_top (u := .int (nI (LI (w.2.2.1 p) ||| (if nx ≠ w.2.2.1 p then 1 <<< p else 0)))) (congrArg Value.int (by rw [if_pos (by omega)])) ?_
                      refine cm_iast (i := w.2.2.1 p) dX7_sortSymbol_161 ha hf (by decide) rfl hk7 (by decide) (fun h ha hf => ?_)
                      exact mm_vret dX7_sortSymbol_162 rfl (⟨rfl, _, dt, _, RS, CO, _, _, ha, hf, ((spy.rf.up (by decide)).up (by decide)).up (by decide), sp_LI (sp_AL (sp_PL hsp (mk_or_lt (hsp.2.2.2.1 _ hk7).1 hbp)) (mk_or_lt (hsp.2.2.2.1 _ hk7).2.2.2.1 (if_24 hbp))) (mk_or_lt (hsp.2.2.2.1 _ hk7).2.2.2.2 (if_24 hbp)), by subst hnx; exact smp_plain hsm hp hs1 c80 rfl hk7 h7⟩)
              · refine mm_aload_n dX7_sortSymbol_83 rfl 2 rfl ?_
                refine cm_getR (b := 17) dX7_sortSymbol_84 ha zr_X7_30 (by decide) rfl rfl rfl ?_
                refine mm_iload dX7_sortSymbol_87 0 rfl ?_
                refine mm_dup2 dX7_sortSymbol_89 rfl rfl ?_
                refine cm_iald (i := w.2.2.1 p) dX7_sortSymbol_90 ha (by decide) rfl (by omega) (by decide) ?_
                refine mn_top (u := .int (nI (CO (w.2.2.1 p)))) (congrArg Value.int (by first | exact (hsp.2.2.1.2.2.1 (w.2.2.1 p) hk7).1 | exact (xu_a (by decide)).trans (hsp.2.2.1.2.2.1 (w.2.2.1 p) hk7).1 | exact (xu_a (by decide)).trans ((xu_a (by decide)).trans (hsp.2.2.1.2.2.1 (w.2.2.1 p) hk7).1))) ?_
                refine mm_iload dX7_sortSymbol_91 1 rfl ?_
                refine mn_ior dX7_sortSymbol_93 ?_
                refine cm_iast (i := w.2.2.1 p) dX7_sortSymbol_94 ha hf (by decide) rfl hk7 (by decide) (fun h ha hf => ?_)
                refine mm_goto (tgt := 162) dX7_sortSymbol_95 (by decide) ?_
                exact mm_vret dX7_sortSymbol_162 rfl (⟨rfl, _, dt, PL, RS, _, AL, LI, ha, hf, spy.rf.up (by decide), sp_CO hsp (mk_or_lt (hsp.2.2.2.1 _ hk7).2.2.1 hbp), smp_dyed hsm hp hs1 c80 rfl hk7⟩)
          · exact absurd (show w.2.1 p = 2 from by omega) hs2
      · exact absurd (show w.2.1 p = 3 from by omega) hd
theorem nx7_le {w : ro_w} {p : Nat} (h7 : ∀ i, i < w.1 → w.2.2.1 i < 7) : nx7 w p ≤ 7 := by
  unfold nx7
  split
  · exact Nat.le_refl _
  · next h =>
    unfold ro_next at h ⊢
    by_cases z : ro_skip w (w.1 - (p + 1)) (p + 1) < w.1
    · rw [if_pos z]
      have := h7 _ z
      omega
    · rw [if_neg z] at h
      exact absurd rfl h
set_option maxRecDepth 100000 in
set_option maxHeartbeats 4000000 in
theorem cs_fill {l : Launch} {D : va_G} {aa : Nat → ClassId} {b0 : Nat} {h : mm_H} {o : Nat} {X : Nat → Nat → Int32} {Y : Nat → Nat → Int64} {rl : Option Nat} {a sg : Nat} {w : ro_w} (ha : cm_at o X Y rl h) (hva : vA a) (hw : vw_ X a w) (hs : vs_ X a sg) : mm_V (zz_K l D aa b0) 3 yX7_fill cX7_fill 5 none 0 [(0, .ref (o + 10)), (1, .ref (o + a))] [] h 0 0 (fun rv h' => rv = none ∧ ∃ (X' : Nat → Nat → Int32) (dt : Nat) (E U P H PL RS CO AL LI : Nat → Nat), cm_at o X' Y rl h' ∧ cm_fr o h h' ∧ spy X X' ∧ spf_ X' w sg (gd_ sg) dt E U P H PL RS CO AL LI) := by
  have h24 := hw.1.2
  have hgo := gd_ok (sg := sg)
  have en2 : ∀ (nv : Int32) (X1 : Nat → Nat → Int32) (dt : Nat) (PL RS CO AL LI : Nat → Nat) (E U P H : Nat → Nat) (h1 : mm_H), spy X X1 → sp_at X1 w.1 dt E U P H PL RS CO AL LI → sm_ok w dt PL RS CO AL LI → ivC w sg (gd_ sg) E U P H (cdn 0 0) → cm_at o X1 Y rl h1 → cm_fr o h h1 → mm_V (zz_K l D aa b0) 3 yX7_fill cX7_fill 5 none 77 [(3, .int ((-1))), (2, .int (nv)), (0, .ref (o + 10)), (1, .ref (o + a))] [] h1 0 0 (fun rv h' => rv = none ∧ ∃ (X' : Nat → Nat → Int32) (dt : Nat) (E U P H PL RS CO AL LI : Nat → Nat), cm_at o X' Y rl h' ∧ cm_fr o h h' ∧ spy X X' ∧ spf_ X' w sg (gd_ sg) dt E U P H PL RS CO AL LI) := by
    intro nv X1 dt PL RS CO AL LI E U P H h1 hy hsp hsm hiv ha hf
    have hw1 := hy.vw hva hw
    have hs1 := hy.vs hva hs
    refine mm_iload_n dX7_fill_77 rfl 0 rfl ?_
    refine mm_if_lt (tgt := 161) dX7_fill_78 (by decide) (fun c78 => ?_) (fun c78 => ?_)
    · refine mm_aload_n dX7_fill_161 rfl 2 rfl ?_
      refine mm_aload_n dX7_fill_162 rfl 3 rfl ?_
      refine cm_getI dX7_fill_163 ha zr_X7_73 (vA_lt hva 0 (by decide)) (vA_0 hva) rfl ?_
      refine mn_top (u := .int (nI (gd_ sg))) (congrArg Value.int ((hs1.2.2.1))) ?_
      refine cm_callV (As := [.int (nI (gd_ sg))]) (rest := []) (d2 := 2) dX7_fill_166 ha (by decide) rfl zz_clX7 zc_X7_89 zs_X7_joinItems rfl rfl (Nat.le_of_ble_eq_true rfl) (Nat.le_of_ble_eq_true rfl) (by decide) (cs_joinItems ha hsp.2.1.2.1 hsp.2.1.2.2.1 (sp_UP hsp) hsp.1.1.1 hsp.1.1.2 hgo.1) (fun r h1 hq => ?_)
      obtain ⟨rfl, ha, hf'⟩ := hq
      have hf := hf.tr hf'
      exact mm_vret dX7_fill_169 rfl (⟨rfl, _, dt, E, U, P, H, PL, RS, CO, AL, LI, ha, hf, (hy.up (by decide)).up (by decide), sp_x hsp (fun b i z => by rw [xu_z (by omega), xu_z (by omega)]), hsm, hiv, (xu_i (by decide)).trans xu_s, xu_s⟩)
    · exact absurd (by decide) c78
  have lp3 : ∀ (nv : Int32) (dt : Nat) (PL RS CO AL LI : Nat → Nat) (p : Nat), sm_ok w dt PL RS CO AL LI → p < w.1 → (∀ (X1 : Nat → Nat → Int32) (E U P H : Nat → Nat) (h1 : mm_H), spy X X1 → sp_at X1 w.1 dt E U P H PL RS CO AL LI → ivC w sg (gd_ sg) E U P H (cdn p 0) → cm_at o X1 Y rl h1 → cm_fr o h h1 → mm_V (zz_K l D aa b0) 3 yX7_fill cX7_fill 5 none 85 [(4, .int ((-1))), (3, .int (nI (p))), (2, .int (nv)), (0, .ref (o + 10)), (1, .ref (o + a))] [] h1 0 0 (fun rv h' => rv = none ∧ ∃ (X' : Nat → Nat → Int32) (dt : Nat) (E U P H PL RS CO AL LI : Nat → Nat), cm_at o X' Y rl h' ∧ cm_fr o h h' ∧ spy X X' ∧ spf_ X' w sg (gd_ sg) dt E U P H PL RS CO AL LI)) → ∀ (k : Nat) (X1 : Nat → Nat → Int32) (E U P H : Nat → Nat) (h1 : mm_H), k ≤ 6 → spy X X1 → sp_at X1 w.1 dt E U P H PL RS CO AL LI → ivC w sg (gd_ sg) E U P H (cdn p (k + 1)) → cm_at o X1 Y rl h1 → cm_fr o h h1 → mm_V (zz_K l D aa b0) 3 yX7_fill cX7_fill 5 none 85 [(4, .int (nI (k))), (3, .int (nI (p))), (2, .int (nv)), (0, .ref (o + 10)), (1, .ref (o + a))] [] h1 0 0 (fun rv h' => rv = none ∧ ∃ (X' : Nat → Nat → Int32) (dt : Nat) (E U P H PL RS CO AL LI : Nat → Nat), cm_at o X' Y rl h' ∧ cm_fr o h h' ∧ spy X X' ∧ spf_ X' w sg (gd_ sg) dt E U P H PL RS CO AL LI) := by
    intro nv dt PL RS CO AL LI p hsm hp en k
    induction k with
    | zero =>
      intro X1 E U P H h1 hk6 hy hsp hiv ha hf
      have hw1 := hy.vw hva hw
      have hs1 := hy.vs hva hs
      refine mm_iload dX7_fill_85 0 rfl ?_
      refine mn_if_lt (tgt := 155) dX7_fill_87 (by decide) (by omega) ?_
      have hpre := pre_of hiv hsm rfl h24 hp hk6
      have hz := fun j hj => (⟨(hsp.2.2.2.2 j hj).1, (hsp.2.2.2.2 j hj).2.1⟩ : U j = 0 ∧ P j = 0)
      refine mm_aload_n dX7_fill_90 rfl 3 rfl ?_
      refine mm_iload dX7_fill_91 0 rfl ?_
      refine mm_iload_n dX7_fill_93 rfl 1 rfl ?_
      refine cm_callV (As := [.int (nI (0)), .int (nI (p))]) (rest := []) (d2 := 1) dX7_fill_94 ha (by decide) rfl zz_clX7 zc_X7_66 zs_X7_fillThird rfl rfl (Nat.le_of_ble_eq_true rfl) (Nat.le_of_ble_eq_true rfl) (by decide) (cs_fillThird ha hsp hp hk6) (fun r h1 hq => ?_)
      obtain ⟨rfl, X2, ha, hf', hx, hsp⟩ := hq
      have hf := hf.tr hf'
      have hy := hy.tr hx.y
      refine mm_aload_n dX7_fill_97 rfl 3 rfl ?_
      refine mm_iload dX7_fill_98 0 rfl ?_
      refine mm_iload_n dX7_fill_100 rfl 1 rfl ?_
      refine cm_callV (As := [.int (nI (0)), .int (nI (p))]) (rest := []) (d2 := 1) dX7_fill_101 ha (by decide) rfl zz_clX7 zc_X7_70 zs_X7_fillPair rfl rfl (Nat.le_of_ble_eq_true rfl) (Nat.le_of_ble_eq_true rfl) (by decide) (cs_fillPair ha hsp hp hk6) (fun r h1 hq => ?_)
      obtain ⟨rfl, X3, ha, hf', hx, hsp⟩ := hq
      have hf := hf.tr hf'
      have hy := hy.tr hx.y
      have hsp : sp_at X3 w.1 dt (ZE E H CO (0) p w.1 []) U (P1x P H CO (0) p w.1) (H1x H CO (0) p) PL RS CO AL LI := hsp
      have hw1 := hy.vw hva hw
      have hs1 := hy.vs hva hs
      refine mm_iload dX7_fill_104 0 rfl ?_
      refine mm_aload_n dX7_fill_106 rfl 4 rfl ?_
      refine cm_getI dX7_fill_107 ha zr_X7_73 (vA_lt hva 0 (by decide)) (vA_0 hva) rfl ?_
      refine mn_top (u := .int (nI (gd_ sg))) (congrArg Value.int ((hs1.2.2.1))) ?_
      refine mn_icmp_ge (tgt := 123) dX7_fill_110 (by decide) (by omega) (by omega) (fun c110 => ?_) (fun c110 => ?_)
      · refine mm_aload_n dX7_fill_123 rfl 4 rfl ?_
        refine mm_iload dX7_fill_124 0 rfl ?_
        refine cm_callVr (As := [.int (nI (0))]) (rest := []) (d2 := 0) dX7_fill_126 ha (vA_lt hva 0 (by decide)) (vA_0 hva) zz_clX9 zc_X7_79 zs_X9_isPerfect rfl rfl (Nat.le_of_ble_eq_true rfl) (Nat.le_of_ble_eq_true rfl) (by decide) (cv_isPerfect ha hva hs1.1 hs1.2.1 (by omega)) ?_
        refine mn_ifB_eq (tgt := 142) dX7_fill_129 (by decide) (fun c129 => ?_) (fun c129 => ?_)
        · refine mm_aload_n dX7_fill_142 rfl 3 rfl ?_
          refine mm_iload dX7_fill_143 0 rfl ?_
          refine mm_iload_n dX7_fill_145 rfl 1 rfl ?_
          refine cm_callV (As := [.int (nI (0)), .int (nI (p))]) (rest := []) (d2 := 2) dX7_fill_146 ha (by decide) rfl zz_clX7 zc_X7_86 zs_X7_fillImperfect rfl rfl (Nat.le_of_ble_eq_true rfl) (Nat.le_of_ble_eq_true rfl) (by decide) (cs_fillImperfect ha hsp hp hk6) (fun r h1 hq => ?_)
          obtain ⟨rfl, X4, ha, hf', hx, hsp⟩ := hq
          have hf := hf.tr hf'
          have hy := hy.tr hx.y
          have hsp : sp_at X4 w.1 dt (ZE E H CO (0) p w.1 (LU_i U (P1x P H CO (0) p w.1) PL RS (0) p w.1 ++ LP_i dt U PL (0) p)) (kps U ((0) * 27 + p) ((LU_i U (P1x P H CO (0) p w.1) PL RS (0) p w.1).map (fun x => x.2))) (kps (P1x P H CO (0) p w.1) ((0) * 27 + p) ((LP_i dt U PL (0) p).map (fun x => x.2))) (H1x H CO (0) p) PL RS CO AL LI := hsp
          have hiv := iv_i hiv hpre c129 (by omega) hz
          refine mm_iinc (v := (-1)) (L' := [(4, .int ((-1))), (3, .int (nI (p))), (2, .int (nv)), (0, .ref (o + 10)), (1, .ref (o + a))]) dX7_fill_149 0 rfl (by decide) (by decide) rfl ?_
          refine mm_goto (tgt := 85) dX7_fill_152 (by decide) ?_
          refine mn_sub [0, 1, 2, 3, 4] rfl ?_
          exact en _ _ _ _ _ _ hy hsp hiv ha hf
        · have hk3 := perf_lt c129
          refine mm_aload_n dX7_fill_132 rfl 3 rfl ?_
          refine mm_iload dX7_fill_133 0 rfl ?_
          refine mm_iload_n dX7_fill_135 rfl 1 rfl ?_
          refine cm_callV (As := [.int (nI (0)), .int (nI (p))]) (rest := []) (d2 := 2) dX7_fill_136 ha (by decide) rfl zz_clX7 zc_X7_83 zs_X7_fillPerfect rfl rfl (Nat.le_of_ble_eq_true rfl) (Nat.le_of_ble_eq_true rfl) (by decide) (cs_fillPerfect ha hsp hp (by omega)) (fun r h1 hq => ?_)
          obtain ⟨rfl, X4, ha, hf', hx, hsp⟩ := hq
          have hf := hf.tr hf'
          have hy := hy.tr hx.y
          have hsp : sp_at X4 w.1 dt (ZE E H CO (0) p w.1 (LU_p dt U (P1x P H CO (0) p w.1) PL RS AL LI (0) p w.1)) (kps U ((0) * 27 + p) ((LU_p dt U (P1x P H CO (0) p w.1) PL RS AL LI (0) p w.1).map (fun x => x.2))) (P1x P H CO (0) p w.1) (H1x H CO (0) p) PL RS CO AL LI := hsp
          have hiv := iv_p hiv hpre c129 (by omega) hz
          refine mm_goto (tgt := 149) dX7_fill_139 (by decide) ?_
          refine mm_iinc (v := (-1)) (L' := [(4, .int ((-1))), (3, .int (nI (p))), (2, .int (nv)), (0, .ref (o + 10)), (1, .ref (o + a))]) dX7_fill_149 0 rfl (by decide) (by decide) rfl ?_
          refine mm_goto (tgt := 85) dX7_fill_152 (by decide) ?_
          refine mn_sub [0, 1, 2, 3, 4] rfl ?_
          exact en _ _ _ _ _ _ hy hsp hiv ha hf
      · refine mm_aload_n dX7_fill_113 rfl 3 rfl ?_
        refine mm_iload dX7_fill_114 0 rfl ?_
        refine mm_iload_n dX7_fill_116 rfl 1 rfl ?_
        refine cm_callV (As := [.int (nI (0)), .int (nI (p))]) (rest := []) (d2 := 2) dX7_fill_117 ha (by decide) rfl zz_clX7 zc_X7_76 zs_X7_fillGreater rfl rfl (Nat.le_of_ble_eq_true rfl) (Nat.le_of_ble_eq_true rfl) (by decide) (cs_fillGreater ha hsp hp hk6) (fun r h1 hq => ?_)
        obtain ⟨rfl, X4, ha, hf', hx, hsp⟩ := hq
        have hf := hf.tr hf'
        have hy := hy.tr hx.y
        have hsp : sp_at X4 w.1 dt (ZE E H CO (0) p w.1 (LU_g dt PL RS (0) p)) (kps U ((0) * 27 + p) ((LU_g dt PL RS (0) p).map (fun x => x.2))) (P1x P H CO (0) p w.1) (H1x H CO (0) p) PL RS CO AL LI := hsp
        have hiv := iv_g hiv hpre (hgo.2 _ (by omega)) (by omega)
        refine mm_goto (tgt := 149) dX7_fill_120 (by decide) ?_
        refine mm_iinc (v := (-1)) (L' := [(4, .int ((-1))), (3, .int (nI (p))), (2, .int (nv)), (0, .ref (o + 10)), (1, .ref (o + a))]) dX7_fill_149 0 rfl (by decide) (by decide) rfl ?_
        refine mm_goto (tgt := 85) dX7_fill_152 (by decide) ?_
        refine mn_sub [0, 1, 2, 3, 4] rfl ?_
        exact en _ _ _ _ _ _ hy hsp hiv ha hf
    | succ k ih =>
      intro X1 E U P H h1 hk6 hy hsp hiv ha hf
      have hw1 := hy.vw hva hw
      have hs1 := hy.vs hva hs
      refine mm_iload dX7_fill_85 0 rfl ?_
      refine mn_if_lt (tgt := 155) dX7_fill_87 (by decide) (by omega) ?_
      have hpre := pre_of hiv hsm rfl h24 hp hk6
      have hz := fun j hj => (⟨(hsp.2.2.2.2 j hj).1, (hsp.2.2.2.2 j hj).2.1⟩ : U j = 0 ∧ P j = 0)
      refine mm_aload_n dX7_fill_90 rfl 3 rfl ?_
      refine mm_iload dX7_fill_91 0 rfl ?_
      refine mm_iload_n dX7_fill_93 rfl 1 rfl ?_
      refine cm_callV (As := [.int (nI (k + 1)), .int (nI (p))]) (rest := []) (d2 := 1) dX7_fill_94 ha (by decide) rfl zz_clX7 zc_X7_66 zs_X7_fillThird rfl rfl (Nat.le_of_ble_eq_true rfl) (Nat.le_of_ble_eq_true rfl) (by decide) (cs_fillThird ha hsp hp hk6) (fun r h1 hq => ?_)
      obtain ⟨rfl, X2, ha, hf', hx, hsp⟩ := hq
      have hf := hf.tr hf'
      have hy := hy.tr hx.y
      refine mm_aload_n dX7_fill_97 rfl 3 rfl ?_
      refine mm_iload dX7_fill_98 0 rfl ?_
      refine mm_iload_n dX7_fill_100 rfl 1 rfl ?_
      refine cm_callV (As := [.int (nI (k + 1)), .int (nI (p))]) (rest := []) (d2 := 1) dX7_fill_101 ha (by decide) rfl zz_clX7 zc_X7_70 zs_X7_fillPair rfl rfl (Nat.le_of_ble_eq_true rfl) (Nat.le_of_ble_eq_true rfl) (by decide) (cs_fillPair ha hsp hp hk6) (fun r h1 hq => ?_)
      obtain ⟨rfl, X3, ha, hf', hx, hsp⟩ := hq
      have hf := hf.tr hf'
      have hy := hy.tr hx.y
      have hsp : sp_at X3 w.1 dt (ZE E H CO (k + 1) p w.1 []) U (P1x P H CO (k + 1) p w.1) (H1x H CO (k + 1) p) PL RS CO AL LI := hsp
      have hw1 := hy.vw hva hw
      have hs1 := hy.vs hva hs
      refine mm_iload dX7_fill_104 0 rfl ?_
      refine mm_aload_n dX7_fill_106 rfl 4 rfl ?_
      refine cm_getI dX7_fill_107 ha zr_X7_73 (vA_lt hva 0 (by decide)) (vA_0 hva) rfl ?_
      refine mn_top (u := .int (nI (gd_ sg))) (congrArg Value.int ((hs1.2.2.1))) ?_
      refine mn_icmp_ge (tgt := 123) dX7_fill_110 (by decide) (by omega) (by omega) (fun c110 => ?_) (fun c110 => ?_)
      · refine mm_aload_n dX7_fill_123 rfl 4 rfl ?_
        refine mm_iload dX7_fill_124 0 rfl ?_
        refine cm_callVr (As := [.int (nI (k + 1))]) (rest := []) (d2 := 0) dX7_fill_126 ha (vA_lt hva 0 (by decide)) (vA_0 hva) zz_clX9 zc_X7_79 zs_X9_isPerfect rfl rfl (Nat.le_of_ble_eq_true rfl) (Nat.le_of_ble_eq_true rfl) (by decide) (cv_isPerfect ha hva hs1.1 hs1.2.1 (by omega)) ?_
        refine mn_ifB_eq (tgt := 142) dX7_fill_129 (by decide) (fun c129 => ?_) (fun c129 => ?_)
        · refine mm_aload_n dX7_fill_142 rfl 3 rfl ?_
          refine mm_iload dX7_fill_143 0 rfl ?_
          refine mm_iload_n dX7_fill_145 rfl 1 rfl ?_
          refine cm_callV (As := [.int (nI (k + 1)), .int (nI (p))]) (rest := []) (d2 := 2) dX7_fill_146 ha (by decide) rfl zz_clX7 zc_X7_86 zs_X7_fillImperfect rfl rfl (Nat.le_of_ble_eq_true rfl) (Nat.le_of_ble_eq_true rfl) (by decide) (cs_fillImperfect ha hsp hp hk6) (fun r h1 hq => ?_)
          obtain ⟨rfl, X4, ha, hf', hx, hsp⟩ := hq
          have hf := hf.tr hf'
          have hy := hy.tr hx.y
          have hsp : sp_at X4 w.1 dt (ZE E H CO (k + 1) p w.1 (LU_i U (P1x P H CO (k + 1) p w.1) PL RS (k + 1) p w.1 ++ LP_i dt U PL (k + 1) p)) (kps U ((k + 1) * 27 + p) ((LU_i U (P1x P H CO (k + 1) p w.1) PL RS (k + 1) p w.1).map (fun x => x.2))) (kps (P1x P H CO (k + 1) p w.1) ((k + 1) * 27 + p) ((LP_i dt U PL (k + 1) p).map (fun x => x.2))) (H1x H CO (k + 1) p) PL RS CO AL LI := hsp
          have hiv := iv_i hiv hpre c129 (by omega) hz
          refine mn_idec (L' := [(4, .int (nI (k))), (3, .int (nI (p))), (2, .int (nv)), (0, .ref (o + 10)), (1, .ref (o + a))]) dX7_fill_149 0 rfl (by decide) rfl ?_
          refine mm_goto (tgt := 85) dX7_fill_152 (by decide) ?_
          refine mn_sub [0, 1, 2, 3, 4] rfl ?_
          exact ih _ _ _ _ _ _ (by omega) hy hsp hiv ha hf
        · have hk3 := perf_lt c129
          refine mm_aload_n dX7_fill_132 rfl 3 rfl ?_
          refine mm_iload dX7_fill_133 0 rfl ?_
          refine mm_iload_n dX7_fill_135 rfl 1 rfl ?_
          refine cm_callV (As := [.int (nI (k + 1)), .int (nI (p))]) (rest := []) (d2 := 2) dX7_fill_136 ha (by decide) rfl zz_clX7 zc_X7_83 zs_X7_fillPerfect rfl rfl (Nat.le_of_ble_eq_true rfl) (Nat.le_of_ble_eq_true rfl) (by decide) (cs_fillPerfect ha hsp hp (by omega)) (fun r h1 hq => ?_)
          obtain ⟨rfl, X4, ha, hf', hx, hsp⟩ := hq
          have hf := hf.tr hf'
          have hy := hy.tr hx.y
          have hsp : sp_at X4 w.1 dt (ZE E H CO (k + 1) p w.1 (LU_p dt U (P1x P H CO (k + 1) p w.1) PL RS AL LI (k + 1) p w.1)) (kps U ((k + 1) * 27 + p) ((LU_p dt U (P1x P H CO (k + 1) p w.1) PL RS AL LI (k + 1) p w.1).map (fun x => x.2))) (P1x P H CO (k + 1) p w.1) (H1x H CO (k + 1) p) PL RS CO AL LI := hsp
          have hiv := iv_p hiv hpre c129 (by omega) hz
          refine mm_goto (tgt := 149) dX7_fill_139 (by decide) ?_
          refine mn_idec (L' := [(4, .int (nI (k))), (3, .int (nI (p))), (2, .int (nv)), (0, .ref (o + 10)), (1, .ref (o + a))]) dX7_fill_149 0 rfl (by decide) rfl ?_
          refine mm_goto (tgt := 85) dX7_fill_152 (by decide) ?_
          refine mn_sub [0, 1, 2, 3, 4] rfl ?_
          exact ih _ _ _ _ _ _ (by omega) hy hsp hiv ha hf
      · refine mm_aload_n dX7_fill_113 rfl 3 rfl ?_
        refine mm_iload dX7_fill_114 0 rfl ?_
        refine mm_iload_n dX7_fill_116 rfl 1 rfl ?_
        refine cm_callV (As := [.int (nI (k + 1)), .int (nI (p))]) (rest := []) (d2 := 2) dX7_fill_117 ha (by decide) rfl zz_clX7 zc_X7_76 zs_X7_fillGreater rfl rfl (Nat.le_of_ble_eq_true rfl) (Nat.le_of_ble_eq_true rfl) (by decide) (cs_fillGreater ha hsp hp hk6) (fun r h1 hq => ?_)
        obtain ⟨rfl, X4, ha, hf', hx, hsp⟩ := hq
        have hf := hf.tr hf'
        have hy := hy.tr hx.y
        have hsp : sp_at X4 w.1 dt (ZE E H CO (k + 1) p w.1 (LU_g dt PL RS (k + 1) p)) (kps U ((k + 1) * 27 + p) ((LU_g dt PL RS (k + 1) p).map (fun x => x.2))) (P1x P H CO (k + 1) p w.1) (H1x H CO (k + 1) p) PL RS CO AL LI := hsp
        have hiv := iv_g hiv hpre (hgo.2 _ (by omega)) (by omega)
        refine mm_goto (tgt := 149) dX7_fill_120 (by decide) ?_
        refine mn_idec (L' := [(4, .int (nI (k))), (3, .int (nI (p))), (2, .int (nv)), (0, .ref (o + 10)), (1, .ref (o + a))]) dX7_fill_149 0 rfl (by decide) rfl ?_
        refine mm_goto (tgt := 85) dX7_fill_152 (by decide) ?_
        refine mn_sub [0, 1, 2, 3, 4] rfl ?_
        exact ih _ _ _ _ _ _ (by omega) hy hsp hiv ha hf
  have lp2 : ∀ (nv : Int32) (dt : Nat) (PL RS CO AL LI : Nat → Nat), sm_ok w dt PL RS CO AL LI → ∀ (p : Nat) (X1 : Nat → Nat → Int32) (E U P H : Nat → Nat) (h1 : mm_H), p < w.1 → spy X X1 → sp_at X1 w.1 dt E U P H PL RS CO AL LI → ivC w sg (gd_ sg) E U P H (cdn p 7) → cm_at o X1 Y rl h1 → cm_fr o h h1 → mm_V (zz_K l D aa b0) 3 yX7_fill cX7_fill 5 none 77 [(3, .int (nI (p))), (2, .int (nv)), (0, .ref (o + 10)), (1, .ref (o + a))] [] h1 0 0 (fun rv h' => rv = none ∧ ∃ (X' : Nat → Nat → Int32) (dt : Nat) (E U P H PL RS CO AL LI : Nat → Nat), cm_at o X' Y rl h' ∧ cm_fr o h h' ∧ spy X X' ∧ spf_ X' w sg (gd_ sg) dt E U P H PL RS CO AL LI) := by
    intro nv dt PL RS CO AL LI hsm p
    induction p with
    | zero =>
      intro X1 E U P H h1 hp hy hsp hiv ha hf
      have hw1 := hy.vw hva hw
      have hs1 := hy.vs hva hs
      refine mm_iload_n dX7_fill_77 rfl 0 rfl ?_
      refine mn_if_lt (tgt := 161) dX7_fill_78 (by decide) (by omega) ?_
      refine mm_bipush (v := nI 6) dX7_fill_81 (by decide) ?_
      refine mm_istore (L' := [(4, .int (nI (6))), (3, .int (nI (0))), (2, .int (nv)), (0, .ref (o + 10)), (1, .ref (o + a))]) dX7_fill_83 (by decide) rfl ?_
      refine mn_sub [0, 1, 2, 3, 4] rfl ?_
      refine lp3 nv dt PL RS CO AL LI (0) hsm hp ?_ 6 _ _ _ _ _ _ (by omega) hy hsp hiv ha hf
      intro X1 E U P H h1 hy hsp hiv ha hf
      refine mm_iload dX7_fill_85 0 rfl ?_
      refine mm_if_lt (tgt := 155) dX7_fill_87 (by decide) (fun c87 => ?_) (fun c87 => ?_)
      · refine mm_iinc (v := (-1)) (L' := [(3, .int ((-1))), (4, .int ((-1))), (2, .int (nv)), (0, .ref (o + 10)), (1, .ref (o + a))]) dX7_fill_155 1 rfl (by decide) (by decide) rfl ?_
        refine mm_goto (tgt := 77) dX7_fill_158 (by decide) ?_
        refine mn_sub [0, 2, 3, 4] rfl ?_
        exact en2 _ _ _ _ _ _ _ _ _ _ _ _ _ hy hsp hsm hiv ha hf
      · exact absurd (by decide) c87
    | succ p ih =>
      intro X1 E U P H h1 hp hy hsp hiv ha hf
      have hw1 := hy.vw hva hw
      have hs1 := hy.vs hva hs
      refine mm_iload_n dX7_fill_77 rfl 0 rfl ?_
      refine mn_if_lt (tgt := 161) dX7_fill_78 (by decide) (by omega) ?_
      refine mm_bipush (v := nI 6) dX7_fill_81 (by decide) ?_
      refine mm_istore (L' := [(4, .int (nI (6))), (3, .int (nI (p + 1))), (2, .int (nv)), (0, .ref (o + 10)), (1, .ref (o + a))]) dX7_fill_83 (by decide) rfl ?_
      refine mn_sub [0, 1, 2, 3, 4] rfl ?_
      refine lp3 nv dt PL RS CO AL LI (p + 1) hsm hp ?_ 6 _ _ _ _ _ _ (by omega) hy hsp hiv ha hf
      intro X1 E U P H h1 hy hsp hiv ha hf
      refine mm_iload dX7_fill_85 0 rfl ?_
      refine mm_if_lt (tgt := 155) dX7_fill_87 (by decide) (fun c87 => ?_) (fun c87 => ?_)
      · refine mn_idec (L' := [(3, .int (nI (p))), (4, .int ((-1))), (2, .int (nv)), (0, .ref (o + 10)), (1, .ref (o + a))]) dX7_fill_155 1 rfl (by decide) rfl ?_
        refine mm_goto (tgt := 77) dX7_fill_158 (by decide) ?_
        refine mn_sub [0, 2, 3, 4] rfl ?_
        exact ih _ _ _ _ _ _ (by omega) hy hsp (iv_next hiv) ha hf
      · exact absurd (by decide) c87
  have en1 : ∀ (nv : Int32) (X1 : Nat → Nat → Int32) (dt : Nat) (PL RS CO AL LI : Nat → Nat) (h1 : mm_H), spy X X1 → sp_at X1 w.1 dt (fun _ => 0) (fun _ => 0) (fun _ => 0) (fun _ => 0) PL RS CO AL LI → sm_ok w dt PL RS CO AL LI → cm_at o X1 Y rl h1 → cm_fr o h h1 → mm_V (zz_K l D aa b0) 3 yX7_fill cX7_fill 5 none 25 [(3, .int ((-1))), (2, .int (nv)), (0, .ref (o + 10)), (1, .ref (o + a))] [] h1 0 0 (fun rv h' => rv = none ∧ ∃ (X' : Nat → Nat → Int32) (dt : Nat) (E U P H PL RS CO AL LI : Nat → Nat), cm_at o X' Y rl h' ∧ cm_fr o h h' ∧ spy X X' ∧ spf_ X' w sg (gd_ sg) dt E U P H PL RS CO AL LI) := by
    intro nv X1 dt PL RS CO AL LI h1 hy hsp hsm ha hf
    have hw1 := hy.vw hva hw
    have hs1 := hy.vs hva hs
    refine mm_iload_n dX7_fill_25 rfl 0 rfl ?_
    refine mm_if_lt (tgt := 70) dX7_fill_26 (by decide) (fun c26 => ?_) (fun c26 => ?_)
    · refine mm_aload_n dX7_fill_70 rfl 2 rfl ?_
      refine cm_getI dX7_fill_71 ha zr_X7_54 (by decide) rfl rfl ?_
      refine mn_top (u := .int (nI (w.1))) (congrArg Value.int ((hsp.1.1.1))) ?_
      refine mm_iconst (v := nI 1) dX7_fill_74 (by decide) ?_
      rcases Nat.eq_zero_or_pos w.1 with h0 | h0
      · refine mm_isub dX7_fill_75 ?_
        refine mn_top (u := .int ((-1))) (congrArg Value.int (by rw [h0]; decide)) ?_
        refine mm_istore_n (L' := [(3, .int ((-1))), (2, .int (nv)), (0, .ref (o + 10)), (1, .ref (o + a))]) dX7_fill_76 rfl (by decide) rfl ?_
        exact en2 _ _ _ _ _ _ _ _ _ _ _ _ _ hy hsp hsm (iv_all0 h0) ha hf
      · refine mn_isub dX7_fill_75 (by omega) ?_
        refine mn_top (u := .int (nI (w.1 - 1))) (congrArg Value.int (by rfl)) ?_
        refine mm_istore_n (L' := [(3, .int (nI (w.1 - 1))), (2, .int (nv)), (0, .ref (o + 10)), (1, .ref (o + a))]) dX7_fill_76 rfl (by decide) rfl ?_
        exact lp2 _ _ _ _ _ _ _ hsm (w.1 - 1) _ _ _ _ _ _ (by omega) hy hsp (iv_begin (fun _ _ _ _ => ⟨fun _ _ => rfl, rfl, rfl, rfl⟩) (by omega)) ha hf
    · exact absurd (by decide) c26
  have lp1 : ∀ (q : Nat) (X1 : Nat → Nat → Int32) (dt : Nat) (PL RS CO AL LI : Nat → Nat) (h1 : mm_H), q < w.1 → spy X X1 → sp_at X1 w.1 dt (fun _ => 0) (fun _ => 0) (fun _ => 0) (fun _ => 0) PL RS CO AL LI → smp w (q + 1) dt PL RS CO AL LI → cm_at o X1 Y rl h1 → cm_fr o h h1 → mm_V (zz_K l D aa b0) 3 yX7_fill cX7_fill 5 none 25 [(3, .int (nI (q))), (2, .int (nI (nx7 w q))), (0, .ref (o + 10)), (1, .ref (o + a))] [] h1 0 0 (fun rv h' => rv = none ∧ ∃ (X' : Nat → Nat → Int32) (dt : Nat) (E U P H PL RS CO AL LI : Nat → Nat), cm_at o X' Y rl h' ∧ cm_fr o h h' ∧ spy X X' ∧ spf_ X' w sg (gd_ sg) dt E U P H PL RS CO AL LI) := by
    intro q
    induction q with
    | zero =>
      intro X1 dt PL RS CO AL LI h1 hqq hy hsp hsm ha hf
      have hw1 := hy.vw hva hw
      have hs1 := hy.vs hva hs
      have hn7 := nx7_le (w := w) (p := 0) (fun i z => (hw.2 i z).2.2.2.1)
      refine mm_iload_n dX7_fill_25 rfl 0 rfl ?_
      refine mn_if_lt (tgt := 70) dX7_fill_26 (by decide) (by omega) ?_
      refine mm_aload_n dX7_fill_29 rfl 2 rfl ?_
      refine mm_aload_n dX7_fill_30 rfl 3 rfl ?_
      refine cm_getR (b := a + 3) dX7_fill_31 ha zr_X7_42 (vA_lt hva 0 (by decide)) (vA_0 hva) rfl rfl ?_
      refine mm_iload_n dX7_fill_34 rfl 0 rfl ?_
      refine mm_iload_n dX7_fill_35 rfl 1 rfl ?_
      refine cm_callV (As := [.ref (o + (a + 3)), .int (nI (0)), .int (nI (nx7 w (0)))]) (rest := []) (d2 := 1) dX7_fill_36 ha (by decide) rfl zz_clX7 zc_X7_55 zs_X7_sortSymbol rfl rfl (Nat.le_of_ble_eq_true rfl) (Nat.le_of_ble_eq_true rfl) (by decide) (cs_sortSymbol ha hva hsp hw1 hqq hsm rfl hn7) (fun r h1 hq => ?_)
      obtain ⟨rfl, X2, dt, PL, RS, CO, AL, LI, ha, hf', hy', hsp, hsm⟩ := hq
      have hf := hf.tr hf'
      have hy := hy.tr hy'
      have hw2 := hy.vw hva hw
      have hi := hw2.2 (0) hqq
      refine mm_aload_n dX7_fill_39 rfl 3 rfl ?_
      refine cm_getR (b := a + 3) dX7_fill_40 ha zr_X7_42 (vA_lt hva 0 (by decide)) (vA_0 hva) rfl rfl ?_
      refine mm_iload_n dX7_fill_43 rfl 0 rfl ?_
      refine cm_callVr (As := [.int (nI (0))]) (rest := []) (d2 := 0) dX7_fill_44 ha (vA_lt hva 3 (by decide)) (vA_3 hva) zz_clX6 zc_X7_59 zs_X6_sortAt rfl rfl (Nat.le_of_ble_eq_true rfl) (Nat.le_of_ble_eq_true rfl) (by decide) (cr_sortAt ha (vr_A hva) hw2.1.1 h24 (by omega)) ?_
      refine mn_top (u := .int (nI (w.2.1 (0)))) (congrArg Value.int (by rw [if_pos hqq]; exact hi.1)) ?_
      refine mm_iconst (v := nI 3) dX7_fill_47 (by decide) ?_
      refine mn_icmp_ne (tgt := 55) dX7_fill_48 (by decide) (by omega) (by omega) (fun c48 => ?_) (fun c48 => ?_)
      · refine mm_aload_n dX7_fill_55 rfl 3 rfl ?_
        refine cm_getR (b := a + 3) dX7_fill_56 ha zr_X7_42 (vA_lt hva 0 (by decide)) (vA_0 hva) rfl rfl ?_
        refine mm_iload_n dX7_fill_59 rfl 0 rfl ?_
        refine cm_callVr (As := [.int (nI (0))]) (rest := []) (d2 := 0) dX7_fill_60 ha (vA_lt hva 3 (by decide)) (vA_3 hva) zz_clX6 zc_X7_63 zs_X6_kindAt rfl rfl (Nat.le_of_ble_eq_true rfl) (Nat.le_of_ble_eq_true rfl) (by decide) (cr_kindAt ha (vr_A hva) hw2.1.1 h24 (by omega)) ?_
        refine mn_top (u := .int (nI (w.2.2.1 (0)))) (congrArg Value.int (by rw [if_pos hqq]; exact hi.2.2.1.trans (if_neg (by omega)))) ?_
        refine mm_istore_n (L' := [(2, .int (nI (w.2.2.1 (0)))), (3, .int (nI (0))), (0, .ref (o + 10)), (1, .ref (o + a))]) dX7_fill_63 rfl (by decide) rfl ?_
        refine mm_iinc (v := (-1)) (L' := [(3, .int ((-1))), (2, .int (nI (w.2.2.1 (0)))), (0, .ref (o + 10)), (1, .ref (o + a))]) dX7_fill_64 1 rfl (by decide) (by decide) rfl ?_
        refine mm_goto (tgt := 25) dX7_fill_67 (by decide) ?_
        refine mn_sub [0, 1, 2, 3] rfl ?_
        exact en1 _ _ _ _ _ _ _ _ _ hy hsp (smp_0 hsm) ha hf
      · refine mm_iload_n dX7_fill_51 rfl 1 rfl ?_
        refine mm_goto (tgt := 63) dX7_fill_52 (by decide) ?_
        refine mm_istore_n (L' := [(2, .int (nI (nx7 w (0)))), (3, .int (nI (0))), (0, .ref (o + 10)), (1, .ref (o + a))]) dX7_fill_63 rfl (by decide) rfl ?_
        refine mm_iinc (v := (-1)) (L' := [(3, .int ((-1))), (2, .int (nI (nx7 w (0)))), (0, .ref (o + 10)), (1, .ref (o + a))]) dX7_fill_64 1 rfl (by decide) (by decide) rfl ?_
        refine mm_goto (tgt := 25) dX7_fill_67 (by decide) ?_
        refine mn_sub [0, 1, 2, 3] rfl ?_
        exact en1 _ _ _ _ _ _ _ _ _ hy hsp (smp_0 hsm) ha hf
    | succ q ih =>
      intro X1 dt PL RS CO AL LI h1 hqq hy hsp hsm ha hf
      have hw1 := hy.vw hva hw
      have hs1 := hy.vs hva hs
      have hn7 := nx7_le (w := w) (p := q + 1) (fun i z => (hw.2 i z).2.2.2.1)
      refine mm_iload_n dX7_fill_25 rfl 0 rfl ?_
      refine mn_if_lt (tgt := 70) dX7_fill_26 (by decide) (by omega) ?_
      refine mm_aload_n dX7_fill_29 rfl 2 rfl ?_
      refine mm_aload_n dX7_fill_30 rfl 3 rfl ?_
      refine cm_getR (b := a + 3) dX7_fill_31 ha zr_X7_42 (vA_lt hva 0 (by decide)) (vA_0 hva) rfl rfl ?_
      refine mm_iload_n dX7_fill_34 rfl 0 rfl ?_
      refine mm_iload_n dX7_fill_35 rfl 1 rfl ?_
      refine cm_callV (As := [.ref (o + (a + 3)), .int (nI (q + 1)), .int (nI (nx7 w (q + 1)))]) (rest := []) (d2 := 1) dX7_fill_36 ha (by decide) rfl zz_clX7 zc_X7_55 zs_X7_sortSymbol rfl rfl (Nat.le_of_ble_eq_true rfl) (Nat.le_of_ble_eq_true rfl) (by decide) (cs_sortSymbol ha hva hsp hw1 hqq hsm rfl hn7) (fun r h1 hq => ?_)
      obtain ⟨rfl, X2, dt, PL, RS, CO, AL, LI, ha, hf', hy', hsp, hsm⟩ := hq
      have hf := hf.tr hf'
      have hy := hy.tr hy'
      have hw2 := hy.vw hva hw
      have hi := hw2.2 (q + 1) hqq
      refine mm_aload_n dX7_fill_39 rfl 3 rfl ?_
      refine cm_getR (b := a + 3) dX7_fill_40 ha zr_X7_42 (vA_lt hva 0 (by decide)) (vA_0 hva) rfl rfl ?_
      refine mm_iload_n dX7_fill_43 rfl 0 rfl ?_
      refine cm_callVr (As := [.int (nI (q + 1))]) (rest := []) (d2 := 0) dX7_fill_44 ha (vA_lt hva 3 (by decide)) (vA_3 hva) zz_clX6 zc_X7_59 zs_X6_sortAt rfl rfl (Nat.le_of_ble_eq_true rfl) (Nat.le_of_ble_eq_true rfl) (by decide) (cr_sortAt ha (vr_A hva) hw2.1.1 h24 (by omega)) ?_
      refine mn_top (u := .int (nI (w.2.1 (q + 1)))) (congrArg Value.int (by rw [if_pos hqq]; exact hi.1)) ?_
      refine mm_iconst (v := nI 3) dX7_fill_47 (by decide) ?_
      refine mn_icmp_ne (tgt := 55) dX7_fill_48 (by decide) (by omega) (by omega) (fun c48 => ?_) (fun c48 => ?_)
      · refine mm_aload_n dX7_fill_55 rfl 3 rfl ?_
        refine cm_getR (b := a + 3) dX7_fill_56 ha zr_X7_42 (vA_lt hva 0 (by decide)) (vA_0 hva) rfl rfl ?_
        refine mm_iload_n dX7_fill_59 rfl 0 rfl ?_
        refine cm_callVr (As := [.int (nI (q + 1))]) (rest := []) (d2 := 0) dX7_fill_60 ha (vA_lt hva 3 (by decide)) (vA_3 hva) zz_clX6 zc_X7_63 zs_X6_kindAt rfl rfl (Nat.le_of_ble_eq_true rfl) (Nat.le_of_ble_eq_true rfl) (by decide) (cr_kindAt ha (vr_A hva) hw2.1.1 h24 (by omega)) ?_
        refine mn_top (u := .int (nI (w.2.2.1 (q + 1)))) (congrArg Value.int (by rw [if_pos hqq]; exact hi.2.2.1.trans (if_neg (by omega)))) ?_
        refine mn_top (u := .int (nI (nx7 w q))) (congrArg Value.int (by rw [nx7_step hqq, if_neg (by unfold ro_dot; rw [decide_eq_false (show ¬ w.2.1 (q + 1) = 3 by omega), Bool.and_false]; decide)])) ?_
        refine mm_istore_n (L' := [(2, .int (nI (nx7 w q))), (3, .int (nI (q + 1))), (0, .ref (o + 10)), (1, .ref (o + a))]) dX7_fill_63 rfl (by decide) rfl ?_
        refine mn_idec (L' := [(3, .int (nI (q))), (2, .int (nI (nx7 w q))), (0, .ref (o + 10)), (1, .ref (o + a))]) dX7_fill_64 1 rfl (by decide) rfl ?_
        refine mm_goto (tgt := 25) dX7_fill_67 (by decide) ?_
        refine mn_sub [0, 1, 2, 3] rfl ?_
        exact ih _ _ _ _ _ _ _ _ (by omega) hy hsp hsm ha hf
      · refine mm_iload_n dX7_fill_51 rfl 1 rfl ?_
        refine mn_top (u := .int (nI (nx7 w q))) (congrArg Value.int (by rw [nx7_step hqq, if_pos (by unfold ro_dot; rw [decide_eq_true hqq, decide_eq_true (by omega)]; rfl)])) ?_
        refine mm_goto (tgt := 63) dX7_fill_52 (by decide) ?_
        refine mm_istore_n (L' := [(2, .int (nI (nx7 w q))), (3, .int (nI (q + 1))), (0, .ref (o + 10)), (1, .ref (o + a))]) dX7_fill_63 rfl (by decide) rfl ?_
        refine mn_idec (L' := [(3, .int (nI (q))), (2, .int (nI (nx7 w q))), (0, .ref (o + 10)), (1, .ref (o + a))]) dX7_fill_64 1 rfl (by decide) rfl ?_
        refine mm_goto (tgt := 25) dX7_fill_67 (by decide) ?_
        refine mn_sub [0, 1, 2, 3] rfl ?_
        exact ih _ _ _ _ _ _ _ _ (by omega) hy hsp hsm ha hf
  have hf := cm_fr.rf (o := o) (h := h)
  refine mm_aload_n dX7_fill_0 rfl 0 rfl ?_
  refine cm_callV (As := []) (rest := []) (d2 := 1) dX7_fill_1 ha (by decide) rfl zz_clX7 zc_X7_39 zs_X7_clear rfl rfl (Nat.le_of_ble_eq_true rfl) (Nat.le_of_ble_eq_true rfl) (by decide) (cs_clear ha) (fun r h1 hq => ?_)
  obtain ⟨rfl, ha, hf'⟩ := hq
  have hf := hf.tr hf'
  have hy : spy X (fxa (fxa (fxa (fxa (fxa (fxa (fxa (fxa (fxa (xu X 10 9 (nI 0)) 11 3591 (nI 0)) 12 189 (nI 0)) 13 189 (nI 0)) 14 189 (nI 0)) 15 7 (nI 0)) 16 7 (nI 0)) 17 7 (nI 0)) 18 7 (nI 0)) 19 7 (nI 0)) := ((((((((((spy.rf.up (by decide)).fx (by decide)).fx (by decide)).fx (by decide)).fx (by decide)).fx (by decide)).fx (by decide)).fx (by decide)).fx (by decide)).fx (by decide))
  have hsp := sp_clear (X0 := X) h24
  generalize (fxa (fxa (fxa (fxa (fxa (fxa (fxa (fxa (fxa (xu X 10 9 (nI 0)) 11 3591 (nI 0)) 12 189 (nI 0)) 13 189 (nI 0)) 14 189 (nI 0)) 15 7 (nI 0)) 16 7 (nI 0)) 17 7 (nI 0)) 18 7 (nI 0)) 19 7 (nI 0)) = X1 at ha hy hsp
  have hw1 := hy.vw hva hw
  refine mm_aload_n dX7_fill_4 rfl 0 rfl ?_
  refine mm_aload_n dX7_fill_5 rfl 1 rfl ?_
  refine cm_getR (b := a + 3) dX7_fill_6 ha zr_X7_42 (vA_lt hva 0 (by decide)) (vA_0 hva) rfl rfl ?_
  refine cm_getI dX7_fill_9 ha zr_X7_48 (vA_lt hva 3 (by decide)) (vA_3 hva) rfl ?_
  refine mn_top (u := .int (nI (w.1))) (congrArg Value.int ((hw1.1.1))) ?_
  refine cm_putI dX7_fill_12 ha hf zp_X7_54 (by decide) rfl rfl rfl rfl (fun h1 ha hf => ?_)
  have hy := hy.up (b := 10) (i := 10) (v := nI w.1) (by decide)
  refine mm_bipush (v := nI 7) dX7_fill_15 (by decide) ?_
  refine mm_istore_n (L' := [(2, .int (nI (7))), (0, .ref (o + 10)), (1, .ref (o + a))]) dX7_fill_17 rfl (by decide) rfl ?_
  refine mm_aload_n dX7_fill_18 rfl 1 rfl ?_
  refine cm_getI dX7_fill_19 ha zr_X7_54 (by decide) rfl rfl ?_
  refine mn_top (u := .int (nI (w.1))) (congrArg Value.int (xu_s)) ?_
  refine mm_iconst (v := nI 1) dX7_fill_22 (by decide) ?_
  rcases Nat.eq_zero_or_pos w.1 with h0 | h0
  · refine mm_isub dX7_fill_23 ?_
    refine mn_top (u := .int ((-1))) (congrArg Value.int (by rw [h0]; decide)) ?_
    refine mm_istore_n (L' := [(3, .int ((-1))), (2, .int (nI (7))), (0, .ref (o + 10)), (1, .ref (o + a))]) dX7_fill_24 rfl (by decide) rfl ?_
    exact en1 _ _ _ _ _ _ _ _ _ hy hsp (smp_0 (smp_end (by omega))) ha hf
  · refine mn_isub dX7_fill_23 (by omega) ?_
    refine mn_top (u := .int (nI (w.1 - 1))) (congrArg Value.int (by rfl)) ?_
    refine mm_istore_n (L' := [(3, .int (nI (w.1 - 1))), (2, .int (nI (7))), (0, .ref (o + 10)), (1, .ref (o + a))]) dX7_fill_24 rfl (by decide) rfl ?_
    have k1 := lp1 (w.1 - 1) _ _ _ _ _ _ _ _ (by omega) hy hsp (smp_end (by omega)) ha hf
    rw [nx7_end (show w.1 ≤ w.1 - 1 + 1 by omega)] at k1
    exact k1
