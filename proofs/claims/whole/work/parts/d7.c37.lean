/-! the class: write -/
theorem wArg_c {x1 x2 x3 x4 x5 : Int32} (c1 : ¬ x1 < 0) (c7 : ¬ nI 16 ≤ x1) (c12 : ¬ x2 < nI 1) (c17 : ¬ nI 3 < x2) (c22 : ¬ x3 < nI 1) (c4 : x2 ≤ nI 1 ∨ ¬ x4 < nI 1) (c5 : x2 ≤ nI 2 ∨ nI 1 ≤ x5) : wArg x1 x2 x3 x4 x5 := by
  have e0 : (0 : Int32).toInt = 0 := by decide
  have e1 : (nI 1).toInt = 1 := by decide
  have e3 : (nI 3).toInt = 3 := by decide
  have e16 : (nI 16).toInt = 16 := by decide
  rw [Int32.lt_iff_toInt_lt, e0] at c1
  rw [Int32.le_iff_toInt_le, e16] at c7
  rw [Int32.lt_iff_toInt_lt, e1] at c12
  rw [Int32.lt_iff_toInt_lt, e3] at c17
  exact ⟨⟨by omega, by omega⟩, ⟨by omega, by omega⟩, Int32.not_lt.mp c22, c4.imp id Int32.not_lt.mp, c5⟩
set_option maxRecDepth 100000 in
set_option maxHeartbeats 4000000 in
theorem cM_writeN {l : Launch} {D : va_G} {aa : Nat → ClassId} {b0 : Nat} {h : mm_H} {o : Nat} {X : Nat → Nat → Int32} {Y : Nat → Nat → Int64} {rl : Option Nat} {x1 x2 x3 x4 x5 : Int32} (ha : cm_at o X Y rl h) (hb : ¬ wArg x1 x2 x3 x4 x5) : mm_V (zz_K l D aa b0) 5 yX11_write cX11_write 7 (some .int) 0 [(0, .ref (o + 0)), (1, .int (x1)), (2, .int (x2)), (3, .int (x3)), (4, .int (x4)), (5, .int (x5))] [] h 0 0 (fun rv h' => h' = h ∧ rv = some (.int (-2))) := by
  refine mm_iload_n dX11_write_0 rfl 1 rfl ?_
  refine mm_if_lt (tgt := 47) dX11_write_1 (by decide) (fun c1 => ?_) (fun c1 => ?_)
  · refine mm_bipush (v := (-2)) dX11_write_47 (by decide) ?_
    exact mm_iret dX11_write_49 rfl (⟨rfl, rfl⟩)
  · refine mm_iload_n dX11_write_4 rfl 1 rfl ?_
    refine mm_bipush (v := nI 16) dX11_write_5 (by decide) ?_
    refine mm_icmp_ge (tgt := 47) dX11_write_7 (by decide) (fun c7 => ?_) (fun c7 => ?_)
    · refine mm_bipush (v := (-2)) dX11_write_47 (by decide) ?_
      exact mm_iret dX11_write_49 rfl (⟨rfl, rfl⟩)
    · refine mm_iload_n dX11_write_10 rfl 2 rfl ?_
      refine mm_iconst (v := nI 1) dX11_write_11 (by decide) ?_
      refine mm_icmp_lt (tgt := 47) dX11_write_12 (by decide) (fun c12 => ?_) (fun c12 => ?_)
      · refine mm_bipush (v := (-2)) dX11_write_47 (by decide) ?_
        exact mm_iret dX11_write_49 rfl (⟨rfl, rfl⟩)
      · refine mm_iload_n dX11_write_15 rfl 2 rfl ?_
        refine mm_iconst (v := nI 3) dX11_write_16 (by decide) ?_
        refine mm_icmp_gt (tgt := 47) dX11_write_17 (by decide) (fun c17 => ?_) (fun c17 => ?_)
        · refine mm_bipush (v := (-2)) dX11_write_47 (by decide) ?_
          exact mm_iret dX11_write_49 rfl (⟨rfl, rfl⟩)
        · refine mm_iload_n dX11_write_20 rfl 3 rfl ?_
          refine mm_iconst (v := nI 1) dX11_write_21 (by decide) ?_
          refine mm_icmp_lt (tgt := 47) dX11_write_22 (by decide) (fun c22 => ?_) (fun c22 => ?_)
          · refine mm_bipush (v := (-2)) dX11_write_47 (by decide) ?_
            exact mm_iret dX11_write_49 rfl (⟨rfl, rfl⟩)
          · refine mm_iload_n dX11_write_25 rfl 2 rfl ?_
            refine mm_iconst (v := nI 1) dX11_write_26 (by decide) ?_
            refine mm_icmp_le (tgt := 36) dX11_write_27 (by decide) (fun c27 => ?_) (fun c27 => ?_)
            · refine mm_iload_n dX11_write_36 rfl 2 rfl ?_
              refine mm_iconst (v := nI 2) dX11_write_37 (by decide) ?_
              refine mm_icmp_le (tgt := 50) dX11_write_38 (by decide) (fun c38 => ?_) (fun c38 => ?_)
              · exact absurd (wArg_c c1 c7 c12 c17 c22 (by first | exact Or.inl c27 | exact Or.inr c33) (by first | exact Or.inl c38 | exact Or.inr c44)) hb
              · refine mm_iload dX11_write_41 5 rfl ?_
                refine mm_iconst (v := nI 1) dX11_write_43 (by decide) ?_
                refine mm_icmp_ge (tgt := 50) dX11_write_44 (by decide) (fun c44 => ?_) (fun c44 => ?_)
                · exact absurd (wArg_c c1 c7 c12 c17 c22 (by first | exact Or.inl c27 | exact Or.inr c33) (by first | exact Or.inl c38 | exact Or.inr c44)) hb
                · refine mm_bipush (v := (-2)) dX11_write_47 (by decide) ?_
                  exact mm_iret dX11_write_49 rfl (⟨rfl, rfl⟩)
            · refine mm_iload dX11_write_30 4 rfl ?_
              refine mm_iconst (v := nI 1) dX11_write_32 (by decide) ?_
              refine mm_icmp_lt (tgt := 47) dX11_write_33 (by decide) (fun c33 => ?_) (fun c33 => ?_)
              · refine mm_bipush (v := (-2)) dX11_write_47 (by decide) ?_
                exact mm_iret dX11_write_49 rfl (⟨rfl, rfl⟩)
              · refine mm_iload_n dX11_write_36 rfl 2 rfl ?_
                refine mm_iconst (v := nI 2) dX11_write_37 (by decide) ?_
                refine mm_icmp_le (tgt := 50) dX11_write_38 (by decide) (fun c38 => ?_) (fun c38 => ?_)
                · exact absurd (wArg_c c1 c7 c12 c17 c22 (by first | exact Or.inl c27 | exact Or.inr c33) (by first | exact Or.inl c38 | exact Or.inr c44)) hb
                · refine mm_iload dX11_write_41 5 rfl ?_
                  refine mm_iconst (v := nI 1) dX11_write_43 (by decide) ?_
                  refine mm_icmp_ge (tgt := 50) dX11_write_44 (by decide) (fun c44 => ?_) (fun c44 => ?_)
                  · exact absurd (wArg_c c1 c7 c12 c17 c22 (by first | exact Or.inl c27 | exact Or.inr c33) (by first | exact Or.inl c38 | exact Or.inr c44)) hb
                  · refine mm_bipush (v := (-2)) dX11_write_47 (by decide) ?_
                    exact mm_iret dX11_write_49 rfl (⟨rfl, rfl⟩)
set_option maxRecDepth 100000 in
set_option maxHeartbeats 4000000 in
theorem cM_write {l : Launch} {D : va_G} {aa : Nat → ClassId} {b0 : Nat} {h : mm_H} {o : Nat} {X : Nat → Nat → Int32} {Y : Nat → Nat → Int64} {rl : Option Nat} {s : aS} {ST : Nat → Bool} {sg n : Nat} {a b c : Int32} (ha : cm_at o X Y rl h) (hW : WF s) (hI : CI s ST X Y rl) (hs : sg < 16) (hn : 1 ≤ n ∧ n ≤ 3) (hg : nI 1 ≤ a ∧ (n ≤ 1 ∨ nI 1 ≤ b) ∧ (n ≤ 2 ∨ nI 1 ≤ c)) : mm_V (zz_K l D aa b0) 5 yX11_write cX11_write 7 (some .int) 0 [(0, .ref (o + 0)), (1, .int (nI (sg))), (2, .int (nI (n))), (3, .int (a)), (4, .int (b)), (5, .int (c))] [] h 0 0 (fun rv h' => rv = some (.int (wAn (wRes sg n (wv3 a b c)))) ∧ ∃ (X' : Nat → Nat → Int32) (Y' : Nat → Nat → Int64) (rl' : Option Nat) (ST' : Nat → Bool), cm_at o X' Y' rl' h' ∧ cm_fr o h h' ∧ CI (aWr s (wRes sg n (wv3 a b c))) ST' X' Y' rl') := by
  have hf := cm_fr.rf (o := o) (h := h)
  obtain ⟨wv, hwv⟩ : ∃ wv, wv = wv3 a b c := ⟨_, rfl⟩
  rw [← hwv]
  have hva : vA 36 := Or.inl rfl
  have hR : rwN sg wv n ≤ 2744 := Nat.le_trans (rwN_le n) (Nat.le_trans (Nat.pow_le_pow_right (by decide) hn.2) (by decide))
  have hT : (n + 1) * rwN sg wv n ≤ 10976 := Nat.le_trans (Nat.mul_le_mul (show n + 1 ≤ 4 by omega) hR) (by decide)
  have lp : ∀ (m q t : Nat) (X1 : Nat → Nat → Int32) (Y1 : Nat → Nat → Int64) (rl1 : Option Nat) (h1 : mm_H), (n + 1) * rwN sg wv n ≤ t + m → q ≤ t → t ≤ (n + 1) * rwN sg wv n → CI s ST X1 Y1 rl1 → wrt_ X1 sg n wv → X1 35 8 = nI t → wRes sg n wv = (wT sg n wv t).find? (wok sg wv) → cm_at o X1 Y1 rl1 h1 → cm_fr o h h1 → mm_V (zz_K l D aa b0) 5 yX11_write cX11_write 7 (some .int) 67 [(0, .ref (o + 0)), (6, .int (nI (q)))] [] h1 0 0 (fun rv h' => rv = some (.int (wAn (wRes sg n wv))) ∧ ∃ (X' : Nat → Nat → Int32) (Y' : Nat → Nat → Int64) (rl' : Option Nat) (ST' : Nat → Bool), cm_at o X' Y' rl' h' ∧ cm_fr o h h' ∧ CI (aWr s (wRes sg n wv)) ST' X' Y' rl') := by
    intro m
    induction m with
    | zero =>
      intro q t X1 Y1 rl1 h1 hTt hqt htT hI hw h8 hres ha hf
      refine mm_iload dX11_write_67 1 rfl ?_
      refine mm_sipush (v := nI 10976) dX11_write_69 (by decide) ?_
      refine mn_icmp_ge (tgt := 123) dX11_write_72 (by decide) (by omega) (by omega) (fun c72 => ?_) (fun c72 => ?_)
      · have hres : wRes sg n wv = none := by rw [hres, wT_e (by omega)]; rfl
        refine mm_iconst (v := (-1)) dX11_write_123 (by decide) ?_
        rw [hres]
        exact mm_iret dX11_write_124 rfl (⟨rfl, X1, Y1, rl1, ST, ha, hf, hI⟩)
      · refine mm_aload_n dX11_write_75 rfl 0 rfl ?_
        refine cm_getR (b := 35) dX11_write_76 ha zr_X11_31 (by decide) rfl rfl rfl ?_
        refine cm_callV (As := []) (rest := []) (d2 := 2) dX11_write_79 ha (by decide) rfl zz_clX10 zc_X11_226 zs_X10_advance rfl rfl (Nat.le_of_ble_eq_true rfl) (Nat.le_of_ble_eq_true rfl) (by decide) (cw_advance ha hw hn h8 htT) (fun r h1 hq => ?_)
        obtain ⟨X2, ha, hf', hx2, ⟨rfl, hT0⟩ | ⟨rfl, cs, t', hTt', htt, htT', h82, hcl, hc14, hvw, h368⟩⟩ := hq
        · have hf := hf.tr hf'
          have hI2 : CI s ST X2 Y1 rl1 := CI_wa hI (fun b i z => hx2 b i (by omega) (by omega) (by omega) (by omega) (by omega))
          refine mn_ifB_eq (tgt := 123) dX11_write_82 (by decide) (fun c82 => ?_) (fun c82 => ?_)
          · have hres : wRes sg n wv = none := by rw [hres, hT0]; rfl
            refine mm_iconst (v := (-1)) dX11_write_123 (by decide) ?_
            rw [hres]
            exact mm_iret dX11_write_124 rfl (⟨rfl, X2, Y1, rl1, ST, ha, hf, hI2⟩)
          · cases c82
        · have hf := hf.tr hf'
          have hI2 : CI s ST X2 Y1 rl1 := CI_wa hI (fun b i z => hx2 b i (by omega) (by omega) (by omega) (by omega) (by omega))
          have hw2 : wrt_ X2 sg n wv := wrt_x hw (fun b i z => hx2 b i (by omega) (by omega) (by omega) (by omega) (by omega))
          obtain ⟨hrk, hd0⟩ := wW_rk (cs := cs) hs (by omega)
          refine mn_ifB_eq (tgt := 123) dX11_write_82 (by decide) (fun c82 => ?_) (fun c82 => ?_)
          · cases c82
          · refine mm_aload_n dX11_write_85 rfl 0 rfl ?_
            refine cm_getR (b := 3) dX11_write_86 ha zr_X11_24 (by decide) rfl rfl rfl ?_
            refine mm_aload_n dX11_write_89 rfl 0 rfl ?_
            refine cm_getR (b := 35) dX11_write_90 ha zr_X11_31 (by decide) rfl rfl rfl ?_
            refine cm_getR (b := 36) dX11_write_93 ha zr_X11_229 (by decide) rfl rfl rfl ?_
            refine cm_callV (As := [.ref (o + 36)]) (rest := []) (d2 := 4) dX11_write_96 ha (by decide) rfl zz_clX5 zc_X11_140 zs_X5_read rfl rfl (Nat.le_of_ble_eq_true rfl) (Nat.le_of_ble_eq_true rfl) (by decide) (cR_read (w := wW cs) (sg := sg) (a := 36) (st := true) ha hva hvw hw2.1 h368 (fun _ => hI2.2.2.2.2.1.1) hrk hd0) (fun r h1 hq => ?_)
            obtain ⟨rfl, X3, Y3, ha, hf', hrd, hY3, h83, -, h73, hor⟩ := hq
            have hf := hf.tr hf'
            have h73 := h73 rfl
            have hI3 : CI s ST X3 Y3 (some 36) := by
              refine CI_wd hI2 (fun b i z => ?_) (fun b i z => hY3 b i (by omega))
              by_cases e : b = 36 ∧ i = 7
              · rw [e.1, e.2, h73]; exact hI2.2.2.2.2.1.1.symm
              · exact hrd b i (by omega)
            have hw3 : wrt_ X3 sg n wv := wrt_x hw2 (fun b i z => hrd b i (by omega))
            have hvw3 : vw_ X3 36 (wW cs) := vw_s hvw (fun b i z => hrd b i (by omega))
            have h8t : X3 35 8 = nI t' := (hrd 35 8 (by omega)).trans h82
            have hlen := rD_len hrk
            have hRd : wRd X3 sg cs := by
              rcases hor with ⟨q1, q2⟩ | ⟨q1, q2, q3⟩
              · exact Or.inl ⟨q1, by rw [hlen]; exact q2⟩
              · obtain ⟨_, _, _, _, _, _, _, _, _, _, _, k2, _⟩ := q2
                refine Or.inr ⟨by rw [hlen]; exact q1, by rw [hlen]; exact k2.2.1, ?_⟩
                rcases q3 rfl with q3 | ⟨y, q3, q4⟩
                · exact Or.inl (by rw [rD_nil hrk q3]; rfl)
                · exact Or.inr ⟨y.2.1, bo_rD hrk q3, q4⟩
            refine mm_aload_n dX11_write_99 rfl 0 rfl ?_
            refine cm_getR (b := 35) dX11_write_100 ha zr_X11_31 (by decide) rfl rfl rfl ?_
            refine cm_callVr (As := []) (rest := []) (d2 := 1) dX11_write_103 ha (by decide) rfl zz_clX10 zc_X11_232 zs_X10_isAsWanted rfl rfl (Nat.le_of_ble_eq_true rfl) (Nat.le_of_ble_eq_true rfl) (by decide) (cw_isAsWanted (sg := sg) (wv := wv) (cs := cs) ha hvw3 hw3.2.2.1 (by omega) hRd) ?_
            refine mn_ifB_eq (tgt := 117) dX11_write_106 (by decide) (fun c106 => ?_) (fun c106 => ?_)
            · have hres2 : wRes sg n wv = (wT sg n wv t').find? (wok sg wv) := by rw [hres, hTt', List.find?_cons_of_neg (by rw [c106]; decide)]
              refine mn_iinc (m := 1) (L' := [(6, .int (nI (q + 1))), (0, .ref (o + 0))]) dX11_write_117 (by decide) 1 rfl (by decide) rfl ?_
              refine mm_goto (tgt := 67) dX11_write_120 (by decide) ?_
              refine mn_sub [1, 0] rfl ?_
              omega
            · have hres2 : wRes sg n wv = some cs := by rw [hres, hTt', List.find?_cons_of_pos c106]
              refine mm_aload_n dX11_write_109 rfl 0 rfl ?_
              refine cm_getR (b := 35) dX11_write_110 ha zr_X11_31 (by decide) rfl rfl rfl ?_
              refine cm_callV (As := []) (rest := []) (d2 := 1) dX11_write_113 ha (by decide) rfl zz_clX10 zc_X11_235 zs_X10_keep rfl rfl (Nat.le_of_ble_eq_true rfl) (Nat.le_of_ble_eq_true rfl) (by decide) (cw_keep (cs := cs) ha hvw3 (by omega) hc14) (fun r h1 hq => ?_)
              obtain ⟨rfl, X4, ha, hf', h9, h50, h51, hx4⟩ := hq
              have hf := hf.tr hf'
              have hI4 : CI (aWr s (some cs)) ST X4 Y3 (some 36) := by
                refine CI_wk hI3 h9 (fun i hi => ?_) hx4
                unfold wkd
                by_cases e : i < (wl cs).length
                · rw [h50 i e, if_pos e]
                  split <;> rfl
                · rw [h51 i (by omega), if_neg e]
                  exact hI3.2.2.2.1.2 i hi
              rw [hres2]
              exact mm_iret dX11_write_116 rfl (⟨rfl, X4, Y3, some 36, ST, ha, hf, hI4⟩)
    | succ m ih =>
      intro q t X1 Y1 rl1 h1 hTt hqt htT hI hw h8 hres ha hf
      refine mm_iload dX11_write_67 1 rfl ?_
      refine mm_sipush (v := nI 10976) dX11_write_69 (by decide) ?_
      refine mn_icmp_ge (tgt := 123) dX11_write_72 (by decide) (by omega) (by omega) (fun c72 => ?_) (fun c72 => ?_)
      · have hres : wRes sg n wv = none := by rw [hres, wT_e (by omega)]; rfl
        refine mm_iconst (v := (-1)) dX11_write_123 (by decide) ?_
        rw [hres]
        exact mm_iret dX11_write_124 rfl (⟨rfl, X1, Y1, rl1, ST, ha, hf, hI⟩)
      · refine mm_aload_n dX11_write_75 rfl 0 rfl ?_
        refine cm_getR (b := 35) dX11_write_76 ha zr_X11_31 (by decide) rfl rfl rfl ?_
        refine cm_callV (As := []) (rest := []) (d2 := 2) dX11_write_79 ha (by decide) rfl zz_clX10 zc_X11_226 zs_X10_advance rfl rfl (Nat.le_of_ble_eq_true rfl) (Nat.le_of_ble_eq_true rfl) (by decide) (cw_advance ha hw hn h8 htT) (fun r h1 hq => ?_)
        obtain ⟨X2, ha, hf', hx2, ⟨rfl, hT0⟩ | ⟨rfl, cs, t', hTt', htt, htT', h82, hcl, hc14, hvw, h368⟩⟩ := hq
        · have hf := hf.tr hf'
          have hI2 : CI s ST X2 Y1 rl1 := CI_wa hI (fun b i z => hx2 b i (by omega) (by omega) (by omega) (by omega) (by omega))
          refine mn_ifB_eq (tgt := 123) dX11_write_82 (by decide) (fun c82 => ?_) (fun c82 => ?_)
          · have hres : wRes sg n wv = none := by rw [hres, hT0]; rfl
            refine mm_iconst (v := (-1)) dX11_write_123 (by decide) ?_
            rw [hres]
            exact mm_iret dX11_write_124 rfl (⟨rfl, X2, Y1, rl1, ST, ha, hf, hI2⟩)
          · cases c82
        · have hf := hf.tr hf'
          have hI2 : CI s ST X2 Y1 rl1 := CI_wa hI (fun b i z => hx2 b i (by omega) (by omega) (by omega) (by omega) (by omega))
          have hw2 : wrt_ X2 sg n wv := wrt_x hw (fun b i z => hx2 b i (by omega) (by omega) (by omega) (by omega) (by omega))
          obtain ⟨hrk, hd0⟩ := wW_rk (cs := cs) hs (by omega)
          refine mn_ifB_eq (tgt := 123) dX11_write_82 (by decide) (fun c82 => ?_) (fun c82 => ?_)
          · cases c82
          · refine mm_aload_n dX11_write_85 rfl 0 rfl ?_
            refine cm_getR (b := 3) dX11_write_86 ha zr_X11_24 (by decide) rfl rfl rfl ?_
            refine mm_aload_n dX11_write_89 rfl 0 rfl ?_
            refine cm_getR (b := 35) dX11_write_90 ha zr_X11_31 (by decide) rfl rfl rfl ?_
            refine cm_getR (b := 36) dX11_write_93 ha zr_X11_229 (by decide) rfl rfl rfl ?_
            refine cm_callV (As := [.ref (o + 36)]) (rest := []) (d2 := 4) dX11_write_96 ha (by decide) rfl zz_clX5 zc_X11_140 zs_X5_read rfl rfl (Nat.le_of_ble_eq_true rfl) (Nat.le_of_ble_eq_true rfl) (by decide) (cR_read (w := wW cs) (sg := sg) (a := 36) (st := true) ha hva hvw hw2.1 h368 (fun _ => hI2.2.2.2.2.1.1) hrk hd0) (fun r h1 hq => ?_)
            obtain ⟨rfl, X3, Y3, ha, hf', hrd, hY3, h83, -, h73, hor⟩ := hq
            have hf := hf.tr hf'
            have h73 := h73 rfl
            have hI3 : CI s ST X3 Y3 (some 36) := by
              refine CI_wd hI2 (fun b i z => ?_) (fun b i z => hY3 b i (by omega))
              by_cases e : b = 36 ∧ i = 7
              · rw [e.1, e.2, h73]; exact hI2.2.2.2.2.1.1.symm
              · exact hrd b i (by omega)
            have hw3 : wrt_ X3 sg n wv := wrt_x hw2 (fun b i z => hrd b i (by omega))
            have hvw3 : vw_ X3 36 (wW cs) := vw_s hvw (fun b i z => hrd b i (by omega))
            have h8t : X3 35 8 = nI t' := (hrd 35 8 (by omega)).trans h82
            have hlen := rD_len hrk
            have hRd : wRd X3 sg cs := by
              rcases hor with ⟨q1, q2⟩ | ⟨q1, q2, q3⟩
              · exact Or.inl ⟨q1, by rw [hlen]; exact q2⟩
              · obtain ⟨_, _, _, _, _, _, _, _, _, _, _, k2, _⟩ := q2
                refine Or.inr ⟨by rw [hlen]; exact q1, by rw [hlen]; exact k2.2.1, ?_⟩
                rcases q3 rfl with q3 | ⟨y, q3, q4⟩
                · exact Or.inl (by rw [rD_nil hrk q3]; rfl)
                · exact Or.inr ⟨y.2.1, bo_rD hrk q3, q4⟩
            refine mm_aload_n dX11_write_99 rfl 0 rfl ?_
            refine cm_getR (b := 35) dX11_write_100 ha zr_X11_31 (by decide) rfl rfl rfl ?_
            refine cm_callVr (As := []) (rest := []) (d2 := 1) dX11_write_103 ha (by decide) rfl zz_clX10 zc_X11_232 zs_X10_isAsWanted rfl rfl (Nat.le_of_ble_eq_true rfl) (Nat.le_of_ble_eq_true rfl) (by decide) (cw_isAsWanted (sg := sg) (wv := wv) (cs := cs) ha hvw3 hw3.2.2.1 (by omega) hRd) ?_
            refine mn_ifB_eq (tgt := 117) dX11_write_106 (by decide) (fun c106 => ?_) (fun c106 => ?_)
            · have hres2 : wRes sg n wv = (wT sg n wv t').find? (wok sg wv) := by rw [hres, hTt', List.find?_cons_of_neg (by rw [c106]; decide)]
              refine mn_iinc (m := 1) (L' := [(6, .int (nI (q + 1))), (0, .ref (o + 0))]) dX11_write_117 (by decide) 1 rfl (by decide) rfl ?_
              refine mm_goto (tgt := 67) dX11_write_120 (by decide) ?_
              refine mn_sub [1, 0] rfl ?_
              exact ih (q + 1) t' X3 Y3 (some 36) _ (by omega) (by omega) htT' hI3 hw3 h8t hres2 ha hf
            · have hres2 : wRes sg n wv = some cs := by rw [hres, hTt', List.find?_cons_of_pos c106]
              refine mm_aload_n dX11_write_109 rfl 0 rfl ?_
              refine cm_getR (b := 35) dX11_write_110 ha zr_X11_31 (by decide) rfl rfl rfl ?_
              refine cm_callV (As := []) (rest := []) (d2 := 1) dX11_write_113 ha (by decide) rfl zz_clX10 zc_X11_235 zs_X10_keep rfl rfl (Nat.le_of_ble_eq_true rfl) (Nat.le_of_ble_eq_true rfl) (by decide) (cw_keep (cs := cs) ha hvw3 (by omega) hc14) (fun r h1 hq => ?_)
              obtain ⟨rfl, X4, ha, hf', h9, h50, h51, hx4⟩ := hq
              have hf := hf.tr hf'
              have hI4 : CI (aWr s (some cs)) ST X4 Y3 (some 36) := by
                refine CI_wk hI3 h9 (fun i hi => ?_) hx4
                unfold wkd
                by_cases e : i < (wl cs).length
                · rw [h50 i e, if_pos e]
                  split <;> rfl
                · rw [h51 i (by omega), if_neg e]
                  exact hI3.2.2.2.1.2 i hi
              rw [hres2]
              exact mm_iret dX11_write_116 rfl (⟨rfl, X4, Y3, some 36, ST, ha, hf, hI4⟩)
  have K50 : mm_V (zz_K l D aa b0) 5 yX11_write cX11_write 7 (some .int) 50 [(0, .ref (o + 0)), (1, .int (nI (sg))), (2, .int (nI (n))), (3, .int (a)), (4, .int (b)), (5, .int (c))] [] h 0 0 (fun rv h' => rv = some (.int (wAn (wRes sg n wv))) ∧ ∃ (X' : Nat → Nat → Int32) (Y' : Nat → Nat → Int64) (rl' : Option Nat) (ST' : Nat → Bool), cm_at o X' Y' rl' h' ∧ cm_fr o h h' ∧ CI (aWr s (wRes sg n wv)) ST' X' Y' rl') := by
    refine mm_aload_n dX11_write_50 rfl 0 rfl ?_
    refine cm_getR (b := 35) dX11_write_51 ha zr_X11_31 (by decide) rfl rfl rfl ?_
    refine mm_iload_n dX11_write_54 rfl 1 rfl ?_
    refine mm_iload_n dX11_write_55 rfl 2 rfl ?_
    refine mm_iload_n dX11_write_56 rfl 3 rfl ?_
    refine mm_iload dX11_write_57 4 rfl ?_
    refine mm_iload dX11_write_59 5 rfl ?_
    refine cm_callV (As := [.int (nI (sg)), .int (nI (n)), .int (a), .int (b), .int (c)]) (rest := []) (d2 := 3) dX11_write_61 ha (by decide) rfl zz_clX10 zc_X11_222 zs_X10_begin rfl rfl (Nat.le_of_ble_eq_true rfl) (Nat.le_of_ble_eq_true rfl) (by decide) (cw_begin (sg := sg) (n := n) (a := a) (b := b) (c := c) ha hs hn) (fun r h1 hq => ?_)
    obtain ⟨rfl, X1, ha, hf', hw, h8, hx⟩ := hq
    have hf := hf.tr hf'
    have hw : wrt_ X1 sg n wv := by rw [hwv]; exact hw
    have hI1 : CI s ST X1 Y rl := CI_wa hI (fun b i z => hx b i (by omega) (by omega) (by omega) (by omega) (by omega) (by omega))
    refine mm_iconst (v := nI 0) dX11_write_64 (by decide) ?_
    refine mm_istore (L' := [(6, .int (nI (0))), (0, .ref (o + 0)), (1, .int (nI (sg))), (2, .int (nI (n))), (3, .int (a)), (4, .int (b)), (5, .int (c))]) dX11_write_65 (by decide) rfl ?_
    refine mn_sub [1, 0] rfl ?_
    exact lp ((n + 1) * rwN sg wv n) 0 0 X1 Y rl _ (by omega) (Nat.le_refl _) (Nat.zero_le _) hI1 hw h8 (wRes_T hs hn.2) ha hf
  refine mm_iload_n dX11_write_0 rfl 1 rfl ?_
  refine mn_if_lt (tgt := 47) dX11_write_1 (by decide) (by omega) ?_
  refine mm_iload_n dX11_write_4 rfl 1 rfl ?_
  refine mm_bipush (v := nI 16) dX11_write_5 (by decide) ?_
  refine mn_icmp_ge (tgt := 47) dX11_write_7 (by decide) (by omega) (by omega) (fun c7 => ?_) (fun c7 => ?_)
  · omega
  · refine mm_iload_n dX11_write_10 rfl 2 rfl ?_
    refine mm_iconst (v := nI 1) dX11_write_11 (by decide) ?_
    refine mn_icmp_lt (tgt := 47) dX11_write_12 (by decide) (by omega) (by omega) (fun c12 => ?_) (fun c12 => ?_)
    · omega
    · refine mm_iload_n dX11_write_15 rfl 2 rfl ?_
      refine mm_iconst (v := nI 3) dX11_write_16 (by decide) ?_
      refine mn_icmp_gt (tgt := 47) dX11_write_17 (by decide) (by omega) (by omega) (fun c17 => ?_) (fun c17 => ?_)
      · omega
      · refine mm_iload_n dX11_write_20 rfl 3 rfl ?_
        refine mm_iconst (v := nI 1) dX11_write_21 (by decide) ?_
        refine mm_icmp_lt (tgt := 47) dX11_write_22 (by decide) (fun c22 => ?_) (fun c22 => ?_)
        · first | exact absurd hg.1 (Int32.not_le.mpr c22) | (rcases hg.2.1 with z1 | z1; omega; exact absurd z1 (Int32.not_le.mpr c33)) | (rcases hg.2.2 with z1 | z1; omega; exact absurd z1 c44)
        · refine mm_iload_n dX11_write_25 rfl 2 rfl ?_
          refine mm_iconst (v := nI 1) dX11_write_26 (by decide) ?_
          refine mn_icmp_le (tgt := 36) dX11_write_27 (by decide) (by omega) (by omega) (fun c27 => ?_) (fun c27 => ?_)
          · refine mm_iload_n dX11_write_36 rfl 2 rfl ?_
            refine mm_iconst (v := nI 2) dX11_write_37 (by decide) ?_
            refine mn_icmp_le (tgt := 50) dX11_write_38 (by decide) (by omega) (by omega) (fun c38 => ?_) (fun c38 => ?_)
            · exact K50
            · refine mm_iload dX11_write_41 5 rfl ?_
              refine mm_iconst (v := nI 1) dX11_write_43 (by decide) ?_
              refine mm_icmp_ge (tgt := 50) dX11_write_44 (by decide) (fun c44 => ?_) (fun c44 => ?_)
              · exact K50
              · first | exact absurd hg.1 (Int32.not_le.mpr c22) | (rcases hg.2.1 with z1 | z1; omega; exact absurd z1 (Int32.not_le.mpr c33)) | (rcases hg.2.2 with z1 | z1; omega; exact absurd z1 c44)
          · refine mm_iload dX11_write_30 4 rfl ?_
            refine mm_iconst (v := nI 1) dX11_write_32 (by decide) ?_
            refine mm_icmp_lt (tgt := 47) dX11_write_33 (by decide) (fun c33 => ?_) (fun c33 => ?_)
            · first | exact absurd hg.1 (Int32.not_le.mpr c22) | (rcases hg.2.1 with z1 | z1; omega; exact absurd z1 (Int32.not_le.mpr c33)) | (rcases hg.2.2 with z1 | z1; omega; exact absurd z1 c44)
            · refine mm_iload_n dX11_write_36 rfl 2 rfl ?_
              refine mm_iconst (v := nI 2) dX11_write_37 (by decide) ?_
              refine mn_icmp_le (tgt := 50) dX11_write_38 (by decide) (by omega) (by omega) (fun c38 => ?_) (fun c38 => ?_)
              · exact K50
              · refine mm_iload dX11_write_41 5 rfl ?_
                refine mm_iconst (v := nI 1) dX11_write_43 (by decide) ?_
                refine mm_icmp_ge (tgt := 50) dX11_write_44 (by decide) (fun c44 => ?_) (fun c44 => ?_)
                · exact K50
                · first | exact absurd hg.1 (Int32.not_le.mpr c22) | (rcases hg.2.1 with z1 | z1; omega; exact absurd z1 (Int32.not_le.mpr c33)) | (rcases hg.2.2 with z1 | z1; omega; exact absurd z1 c44)
