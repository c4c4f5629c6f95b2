/-! Writer: the next row; is it as wanted; it is kept -/
set_option maxRecDepth 100000 in
set_option maxHeartbeats 4000000 in
theorem cw_advance {l : Launch} {D : va_G} {aa : Nat → ClassId} {b0 : Nat} {h : mm_H} {o : Nat} {X : Nat → Nat → Int32} {Y : Nat → Nat → Int64} {rl : Option Nat} {sg n t : Nat} {wv : Nat → Int32} (ha : cm_at o X Y rl h) (hw : wrt_ X sg n wv) (hn : 1 ≤ n ∧ n ≤ 3) (h8 : X 35 8 = nI t) (ht : t ≤ (n + 1) * rwN sg wv n) : mm_V (zz_K l D aa b0) 2 yX10_advance cX10_advance 4 (some .boolean) 0 [(0, .ref (o + 35))] [] h 0 0 (fun rv h' => ∃ X' : Nat → Nat → Int32, cm_at o X' Y rl h' ∧ cm_fr o h h' ∧ (∀ b i, ¬ (b = 35 ∧ i = 8) → ¬ (b = 36 ∧ i = 8) → ¬ (b = 39 ∧ i = 6) → ¬ (40 ≤ b ∧ b ≤ 45) → b ≠ 47 → X' b i = X b i) ∧ ((rv = some (.int (nI (Bool.toNat false))) ∧ wT sg n wv t = []) ∨ (rv = some (.int (nI (Bool.toNat true))) ∧ ∃ (cs : List Nat) (t' : Nat), wT sg n wv t = cs :: wT sg n wv t' ∧ t < t' ∧ t' ≤ (n + 1) * rwN sg wv n ∧ X' 35 8 = nI t' ∧ cs.length = n ∧ (∀ c ∈ cs, c < 14) ∧ vw_ X' 36 (wW cs) ∧ X' 36 8 = nI 1))) := by
  have hf := cm_fr.rf (o := o) (h := h)
  have hR : rwN sg wv n ≤ 2744 := Nat.le_trans (rwN_le n) (Nat.le_trans (Nat.pow_le_pow_right (by decide) hn.2) (by decide))
  have hT : (n + 1) * rwN sg wv n ≤ 10976 := Nat.le_trans (Nat.mul_le_mul (show n + 1 ≤ 4 by omega) hR) (by decide)
  refine mm_iconst (v := nI 0) dX10_advance_0 (by decide) ?_
  refine mm_istore_n (L' := [(1, .int (nI (0))), (0, .ref (o + 35))]) dX10_advance_1 rfl (by decide) rfl ?_
  refine mn_sub [1, 0] rfl ?_
  suffices lp : ∀ (m q u : Nat) (X1 : Nat → Nat → Int32) (h1 : mm_H), u + m = (n + 1) * rwN sg wv n → t + q = u → wT sg n wv t = wT sg n wv u → X1 35 8 = nI u → (∀ b i, ¬ (b = 35 ∧ i = 8) → ¬ (b = 36 ∧ i = 8) → ¬ (b = 39 ∧ i = 6) → ¬ (40 ≤ b ∧ b ≤ 45) → b ≠ 47 → X1 b i = X b i) → cm_at o X1 Y rl h1 → cm_fr o h h1 → mm_V (zz_K l D aa b0) 2 yX10_advance cX10_advance 4 (some .boolean) 2 [(0, .ref (o + 35)), (1, .int (nI (q)))] [] h1 0 0 (fun rv h' => ∃ X' : Nat → Nat → Int32, cm_at o X' Y rl h' ∧ cm_fr o h h' ∧ (∀ b i, ¬ (b = 35 ∧ i = 8) → ¬ (b = 36 ∧ i = 8) → ¬ (b = 39 ∧ i = 6) → ¬ (40 ≤ b ∧ b ≤ 45) → b ≠ 47 → X' b i = X b i) ∧ ((rv = some (.int (nI (Bool.toNat false))) ∧ wT sg n wv t = []) ∨ (rv = some (.int (nI (Bool.toNat true))) ∧ ∃ (cs : List Nat) (t' : Nat), wT sg n wv t = cs :: wT sg n wv t' ∧ t < t' ∧ t' ≤ (n + 1) * rwN sg wv n ∧ X' 35 8 = nI t' ∧ cs.length = n ∧ (∀ c ∈ cs, c < 14) ∧ vw_ X' 36 (wW cs) ∧ X' 36 8 = nI 1))) from lp ((n + 1) * rwN sg wv n - t) 0 t X h (by omega) rfl rfl h8 (fun _ _ _ _ _ _ _ => rfl) ha hf
  intro m
  induction m with
  | zero =>
    intro q u X1 h1 hum htq hwT h8 hfx ha hf
    have hw1 : wrt_ X1 sg n wv := wrt_x hw (fun b i z => hfx b i (by omega) (by omega) (by omega) (by omega) (by omega))
    refine mm_iload_n dX10_advance_2 rfl 1 rfl ?_
    refine mm_sipush (v := nI 10976) dX10_advance_3 (by decide) ?_
    refine mn_icmp_ge (tgt := 85) dX10_advance_6 (by decide) (by omega) (by omega) (fun c6 => ?_) (fun c6 => ?_)
    · refine mm_iconst (v := nI 0) dX10_advance_85 (by decide) ?_
      refine mn_top (u := .int (nI (Bool.toNat (false)))) (congrArg Value.int (rfl)) ?_
      exact mm_zret dX10_advance_86 rfl (by exact mn_nz _) (⟨X1, ha, hf, hfx, Or.inl ⟨rfl, hwT.trans (wT_e (by omega))⟩⟩)
    · refine mm_aload_n dX10_advance_9 rfl 0 rfl ?_
      refine cm_getI dX10_advance_10 ha zr_X10_51 (by decide) rfl rfl ?_
      refine mn_top (u := .int (nI (rwN sg wv n))) (congrArg Value.int ((hw1.2.2.2.2))) ?_
      refine mn_if_le (tgt := 85) dX10_advance_13 (by decide) (by omega) (fun c13 => ?_) (fun c13 => ?_)
      · refine mm_iconst (v := nI 0) dX10_advance_85 (by decide) ?_
        refine mn_top (u := .int (nI (Bool.toNat (false)))) (congrArg Value.int (rfl)) ?_
        exact mm_zret dX10_advance_86 rfl (by exact mn_nz _) (⟨X1, ha, hf, hfx, Or.inl ⟨rfl, hwT.trans (wT_e (by omega))⟩⟩)
      · refine mm_aload_n dX10_advance_16 rfl 0 rfl ?_
        refine cm_getI dX10_advance_17 ha zr_X10_54 (by decide) rfl rfl ?_
        refine mn_top (u := .int (nI (u))) (congrArg Value.int ((h8))) ?_
        refine mm_aload_n dX10_advance_20 rfl 0 rfl ?_
        refine cm_getI dX10_advance_21 ha zr_X10_47 (by decide) rfl rfl ?_
        refine mn_top (u := .int (nI (n))) (congrArg Value.int ((hw1.2.1))) ?_
        refine mm_iconst (v := nI 1) dX10_advance_24 (by decide) ?_
        refine mn_iadd dX10_advance_25 ?_
        refine mm_aload_n dX10_advance_26 rfl 0 rfl ?_
        refine cm_getI dX10_advance_27 ha zr_X10_51 (by decide) rfl rfl ?_
        refine mn_top (u := .int (nI (rwN sg wv n))) (congrArg Value.int ((hw1.2.2.2.2))) ?_
        refine mn_imul dX10_advance_30 ?_
        refine mn_icmp_ge (tgt := 85) dX10_advance_31 (by decide) (by omega) (by omega) (fun c31 => ?_) (fun c31 => ?_)
        · refine mm_iconst (v := nI 0) dX10_advance_85 (by decide) ?_
          refine mn_top (u := .int (nI (Bool.toNat (false)))) (congrArg Value.int (rfl)) ?_
          exact mm_zret dX10_advance_86 rfl (by exact mn_nz _) (⟨X1, ha, hf, hfx, Or.inl ⟨rfl, hwT.trans (wT_e (by omega))⟩⟩)
        · omega
  | succ m ih =>
    intro q u X1 h1 hum htq hwT h8 hfx ha hf
    have hw1 : wrt_ X1 sg n wv := wrt_x hw (fun b i z => hfx b i (by omega) (by omega) (by omega) (by omega) (by omega))
    have hRp : 0 < rwN sg wv n := Nat.pos_of_ne_zero (fun e => by rw [e, Nat.mul_zero] at hum; omega)
    have hmod := Nat.mod_lt u hRp
    have hdiv := Nat.div_le_self u (rwN sg wv n)
    obtain ⟨cs, hcs, hcl, hc14⟩ := wE_at hmod
    have hst := wT_s (show u < (n + 1) * rwN sg wv n by omega) hRp hcs
    have hod := odd_le cs
    refine mm_iload_n dX10_advance_2 rfl 1 rfl ?_
    refine mm_sipush (v := nI 10976) dX10_advance_3 (by decide) ?_
    refine mn_icmp_ge (tgt := 85) dX10_advance_6 (by decide) (by omega) (by omega) (fun c6 => ?_) (fun c6 => ?_)
    · omega
    · refine mm_aload_n dX10_advance_9 rfl 0 rfl ?_
      refine cm_getI dX10_advance_10 ha zr_X10_51 (by decide) rfl rfl ?_
      refine mn_top (u := .int (nI (rwN sg wv n))) (congrArg Value.int ((hw1.2.2.2.2))) ?_
      refine mn_if_le (tgt := 85) dX10_advance_13 (by decide) (by omega) (fun c13 => ?_) (fun c13 => ?_)
      · omega
      · refine mm_aload_n dX10_advance_16 rfl 0 rfl ?_
        refine cm_getI dX10_advance_17 ha zr_X10_54 (by decide) rfl rfl ?_
        refine mn_top (u := .int (nI (u))) (congrArg Value.int ((h8))) ?_
        refine mm_aload_n dX10_advance_20 rfl 0 rfl ?_
        refine cm_getI dX10_advance_21 ha zr_X10_47 (by decide) rfl rfl ?_
        refine mn_top (u := .int (nI (n))) (congrArg Value.int ((hw1.2.1))) ?_
        refine mm_iconst (v := nI 1) dX10_advance_24 (by decide) ?_
        refine mn_iadd dX10_advance_25 ?_
        refine mm_aload_n dX10_advance_26 rfl 0 rfl ?_
        refine cm_getI dX10_advance_27 ha zr_X10_51 (by decide) rfl rfl ?_
        refine mn_top (u := .int (nI (rwN sg wv n))) (congrArg Value.int ((hw1.2.2.2.2))) ?_
        refine mn_imul dX10_advance_30 ?_
        refine mn_icmp_ge (tgt := 85) dX10_advance_31 (by decide) (by omega) (by omega) (fun c31 => ?_) (fun c31 => ?_)
        · omega
        · refine mm_aload_n dX10_advance_34 rfl 0 rfl ?_
          refine cm_getI dX10_advance_35 ha zr_X10_54 (by decide) rfl rfl ?_
          refine mn_top (u := .int (nI (u))) (congrArg Value.int ((h8))) ?_
          refine mm_aload_n dX10_advance_38 rfl 0 rfl ?_
          refine cm_getI dX10_advance_39 ha zr_X10_51 (by decide) rfl rfl ?_
          refine mn_top (u := .int (nI (rwN sg wv n))) (congrArg Value.int ((hw1.2.2.2.2))) ?_
          refine mn_idiv dX10_advance_42 (by omega) (by omega) (by omega) ?_
          refine mm_istore_n (L' := [(2, .int (nI ((u) / (rwN sg wv n)))), (0, .ref (o + 35)), (1, .int (nI (q)))]) dX10_advance_43 rfl (by decide) rfl ?_
          refine mm_aload_n dX10_advance_44 rfl 1 rfl ?_
          refine mm_aload_n dX10_advance_45 rfl 1 rfl ?_
          refine cm_getI dX10_advance_46 ha zr_X10_54 (by decide) rfl rfl ?_
          refine mn_top (u := .int (nI (u))) (congrArg Value.int ((h8))) ?_
          refine mm_aload_n dX10_advance_49 rfl 1 rfl ?_
          refine cm_getI dX10_advance_50 ha zr_X10_51 (by decide) rfl rfl ?_
          refine mn_top (u := .int (nI (rwN sg wv n))) (congrArg Value.int ((hw1.2.2.2.2))) ?_
          refine mn_irem dX10_advance_53 (by omega) (by omega) (by omega) ?_
          refine cm_callV (As := [.int (nI ((u) % (rwN sg wv n)))]) (rest := []) (d2 := 0) dX10_advance_54 ha (by decide) rfl zz_clX10 zc_X10_69 zs_X10_chooseRow rfl rfl (Nat.le_of_ble_eq_true rfl) (Nat.le_of_ble_eq_true rfl) (by decide) (cw_chooseRow ha hw1 hn (by omega) hRp hcs hcl) (fun r h1 hq => ?_)
          obtain ⟨rfl, X2, ha, hf', hch, hx2⟩ := hq
          have hf := hf.tr hf'
          refine mm_istore_n (L' := [(3, .int (nI (oddN cs))), (2, .int (nI ((u) / (rwN sg wv n)))), (0, .ref (o + 35)), (1, .int (nI (q)))]) dX10_advance_57 rfl (by decide) rfl ?_
          refine mm_aload_n dX10_advance_58 rfl 2 rfl ?_
          refine mm_dup dX10_advance_59 rfl ?_
          refine cm_getI dX10_advance_60 ha zr_X10_54 (by decide) rfl rfl ?_
          refine mn_top (u := .int (nI (u))) (congrArg Value.int (((hx2 35 8 (by decide)).trans h8))) ?_
          refine mm_iconst (v := nI 1) dX10_advance_63 (by decide) ?_
          refine mn_iadd dX10_advance_64 ?_
          refine cm_putI dX10_advance_65 ha hf zp_X10_54 (by decide) rfl rfl rfl rfl (fun h1 ha hf => ?_)
          refine mm_iload_n dX10_advance_68 rfl 0 rfl ?_
          refine mm_iload_n dX10_advance_69 rfl 1 rfl ?_
          refine mn_icmp_ne (tgt := 79) dX10_advance_70 (by decide) (by omega) (by omega) (fun c70 => ?_) (fun c70 => ?_)
          · rw [if_neg c70] at hst
            refine mn_iinc (m := 1) (L' := [(1, .int (nI (q + 1))), (3, .int (nI (oddN cs))), (2, .int (nI ((u) / (rwN sg wv n)))), (0, .ref (o + 35))]) dX10_advance_79 (by decide) 3 rfl (by decide) rfl ?_
            refine mm_goto (tgt := 2) dX10_advance_82 (by decide) ?_
            refine mn_sub [3, 0] rfl ?_
            exact ih (q + 1) (u + 1) _ _ (by omega) (by omega) (hwT.trans hst) xu_s (fun b i n1 n2 n3 n4 n5 => (xu_z n1).trans ((hx2 b i n5).trans (hfx b i n1 n2 n3 n4 n5))) ha hf
          · rw [if_pos c70] at hst
            refine mm_aload_n dX10_advance_73 rfl 2 rfl ?_
            refine cm_callV (As := []) (rest := []) (d2 := 1) dX10_advance_74 ha (by decide) rfl zz_clX10 zc_X10_72 zs_X10_putDown rfl rfl (Nat.le_of_ble_eq_true rfl) (Nat.le_of_ble_eq_true rfl) (by decide) (cw_putDown (cs := cs) ha ((xu_i (by decide)).trans ((hx2 35 6 (by decide)).trans hw1.2.1)) hn hcl hc14 (fun j c z => (xu_a (by decide)).trans (hch j c z))) (fun r h1 hq => ?_)
            obtain ⟨rfl, X3, ha, hf', hvl, h83, hx3⟩ := hq
            have hf := hf.tr hf'
            refine mm_iconst (v := nI 1) dX10_advance_77 (by decide) ?_
            refine mn_top (u := .int (nI (Bool.toNat (true)))) (congrArg Value.int (rfl)) ?_
            exact mm_zret dX10_advance_78 rfl (by exact mn_nz _) (⟨X3, ha, hf, fun b i n1 n2 n3 n4 n5 => (hx3 b i n2 n3 n4).trans ((xu_z n1).trans ((hx2 b i n5).trans (hfx b i n1 n2 n3 n4 n5))), Or.inr ⟨rfl, cs, u + 1, hwT.trans hst, by omega, by omega, (hx3 35 8 (by decide) (by decide) (by decide)).trans xu_s, hcl, hc14, vl2_w hvl hc14 (by omega), h83⟩⟩)
set_option maxRecDepth 100000 in
set_option maxHeartbeats 4000000 in
theorem cw_isAsWanted {l : Launch} {D : va_G} {aa : Nat → ClassId} {b0 : Nat} {h : mm_H} {o : Nat} {X : Nat → Nat → Int32} {Y : Nat → Nat → Int64} {rl : Option Nat} {sg : Nat} {wv : Nat → Int32} {cs : List Nat} (ha : cm_at o X Y rl h) (hvw : vw_ X 36 (wW cs)) (hwv : ∀ i, i < 3 → X 46 i = wv i) (hcl : cs.length ≤ 3) (hr : wRd X sg cs) : mm_V (zz_K l D aa b0) 1 yX10_isAsWanted cX10_isAsWanted 3 (some .boolean) 0 [(0, .ref (o + 35))] [] h 0 0 (fun rv h' => h' = h ∧ rv = some (.int (nI (Bool.toNat (wok sg wv cs))))) := by
  have hva : vA 36 := Or.inl rfl
  have hra : rA 39 := Or.inl rfl
  have hlen := wl_len cs
  have hL : ∃ tt, X 36 5 = nI tt ∧ tt ≤ 1001 ∧ ((1000 < tt ∨ tt = 0) → wok sg wv cs = false) ∧ (0 < tt → tt ≤ 1000 → ∃ y, wok sg wv cs = nk (aV y) wv (wl cs) 0 0 ∧ ∀ i, i < (wl cs).length → X 38 i = nI (aV y i)) := by
    rcases hr with ⟨q1, q2⟩ | ⟨q1, q2, q3⟩
    · exact ⟨1001, q1, by decide, fun _ => wok_0 dd_rf (Or.inr q2), fun _ z => by omega⟩
    · refine ⟨_, q1, by omega, fun z => wok_0 dd_rf (by omega), fun z1 z2 => ?_⟩
      rcases q3 with q3 | ⟨y, q3, q4⟩
      · omega
      · exact ⟨y, wok_y dd_rf z1 z2 q3, q4⟩
  obtain ⟨tt, h5, htt, hno, hyes⟩ := hL
  refine mm_aload_n dX10_isAsWanted_0 rfl 0 rfl ?_
  refine cm_getR (b := 36) dX10_isAsWanted_1 ha zr_X10_14 (by decide) rfl rfl rfl ?_
  refine cm_callVr (As := []) (rest := []) (d2 := 0) dX10_isAsWanted_4 ha (by decide) rfl zz_clX9 zc_X10_92 zs_X9_isMany rfl rfl (Nat.le_of_ble_eq_true rfl) (Nat.le_of_ble_eq_true rfl) (by decide) (cv_isMany (a := 36) ha hva h5 (by omega)) ?_
  refine mn_ifB_ne (tgt := 20) dX10_isAsWanted_7 (by decide) (fun c7 => ?_) (fun c7 => ?_)
  · refine mm_iconst (v := nI 0) dX10_isAsWanted_20 (by decide) ?_
    refine mn_top (u := .int (nI (Bool.toNat (wok sg wv cs)))) (congrArg Value.int (by rw [hno (Or.inl (of_decide_eq_true c7))]; rfl)) ?_
    exact mm_zret dX10_isAsWanted_21 rfl (by exact mn_nz _) (⟨rfl, rfl⟩)
  · have c7 : ¬ 1000 < tt := of_decide_eq_false c7
    refine mm_aload_n dX10_isAsWanted_10 rfl 0 rfl ?_
    refine cm_getR (b := 36) dX10_isAsWanted_11 ha zr_X10_14 (by decide) rfl rfl rfl ?_
    refine cm_getI dX10_isAsWanted_14 ha zr_X10_96 (by decide) rfl rfl ?_
    refine mn_top (u := .int (nI (tt))) (congrArg Value.int ((h5))) ?_
    refine mn_if_ne (tgt := 22) dX10_isAsWanted_17 (by decide) (by omega) (fun c17 => ?_) (fun c17 => ?_)
    · obtain ⟨y, hok, hti⟩ := hyes (by omega) (by omega)
      refine mm_iconst (v := nI 0) dX10_isAsWanted_22 (by decide) ?_
      refine mm_istore_n (L' := [(1, .int (nI (0))), (0, .ref (o + 35))]) dX10_isAsWanted_23 rfl (by decide) rfl ?_
      refine mm_iconst (v := nI 0) dX10_isAsWanted_24 (by decide) ?_
      refine mm_istore_n (L' := [(2, .int (nI (0))), (1, .int (nI (0))), (0, .ref (o + 35))]) dX10_isAsWanted_25 rfl (by decide) rfl ?_
      refine mn_sub [2, 1, 0] rfl ?_
      suffices lp : ∀ (ll : List (Nat × Nat)) (i k : Nat), (∀ j, j < ll.length → ll.getD j (0, 0) = (wl cs).getD (i + j) (0, 0)) → i + ll.length = (wl cs).length → k + cnN ll ≤ 3 → wok sg wv cs = nk (aV y) wv ll i k → mm_V (zz_K l D aa b0) 1 yX10_isAsWanted cX10_isAsWanted 3 (some .boolean) 26 [(0, .ref (o + 35)), (1, .int (nI (k))), (2, .int (nI (i)))] [] h 0 0 (fun rv h' => h' = h ∧ rv = some (.int (nI (Bool.toNat (wok sg wv cs))))) from lp (wl cs) 0 0 (fun j _ => by rw [Nat.zero_add]) (Nat.zero_add _) (by rw [cnN_wl]; omega) hok
      intro ll
      induction ll with
      | nil =>
        intro i k hel hil hkn hob
        have hil : i + 0 = (wl cs).length := hil
        refine mm_iload_n dX10_isAsWanted_26 rfl 2 rfl ?_
        refine mm_aload_n dX10_isAsWanted_27 rfl 0 rfl ?_
        refine cm_getR (b := 36) dX10_isAsWanted_28 ha zr_X10_14 (by decide) rfl rfl rfl ?_
        refine cm_getR (b := 39) dX10_isAsWanted_31 ha zr_X10_75 (by decide) rfl rfl rfl ?_
        refine cm_getI dX10_isAsWanted_34 ha zr_X10_79 (by decide) rfl rfl ?_
        refine mn_top (u := .int (nI ((wl cs).length))) (congrArg Value.int ((hvw.1.1))) ?_
        refine mn_icmp_ge (tgt := 88) dX10_isAsWanted_37 (by decide) (by omega) (by omega) (fun c37 => ?_) (fun c37 => ?_)
        · refine mm_iconst (v := nI 1) dX10_isAsWanted_88 (by decide) ?_
          refine mn_top (u := .int (nI (Bool.toNat (wok sg wv cs)))) (congrArg Value.int (by rw [hob]; rfl)) ?_
          exact mm_zret dX10_isAsWanted_89 rfl (by exact mn_nz _) (⟨rfl, rfl⟩)
        · omega
      | cons t ll ih =>
        intro i k hel hil hkn hob
        rw [List.length_cons] at hil
        have ht : (wl cs).getD i (0, 0) = t := (hel 0 (Nat.succ_pos _)).symm
        obtain ⟨hin, -⟩ := wl_in cs i (by omega)
        rw [ht] at hin
        have ht4 : t.1 < 4 := by rcases hin with z | z <;> rw [z] <;> decide
        have h40 : X 40 i = nI t.1 := by have := (hvw.2 i (show i < (wl cs).length by omega)).1; rw [show (wW cs).2.1 i = ((wl cs).getD i (0, 0)).1 from rfl, ht] at this; exact this
        have hvi : X 38 i = nI (aV y i) := hti i (by omega)
        have hel2 : ∀ j, j < ll.length → ll.getD j (0, 0) = (wl cs).getD (i + 1 + j) (0, 0) := fun j hj => by have := hel (j + 1) (Nat.succ_lt_succ hj); rw [show i + 1 + j = i + (j + 1) by omega]; exact this
        have hcn : cnN (t :: ll) = (if t.1 = 1 then 1 else 0) + cnN ll := rfl
        rw [hcn] at hkn
        refine mm_iload_n dX10_isAsWanted_26 rfl 2 rfl ?_
        refine mm_aload_n dX10_isAsWanted_27 rfl 0 rfl ?_
        refine cm_getR (b := 36) dX10_isAsWanted_28 ha zr_X10_14 (by decide) rfl rfl rfl ?_
        refine cm_getR (b := 39) dX10_isAsWanted_31 ha zr_X10_75 (by decide) rfl rfl rfl ?_
        refine cm_getI dX10_isAsWanted_34 ha zr_X10_79 (by decide) rfl rfl ?_
        refine mn_top (u := .int (nI ((wl cs).length))) (congrArg Value.int ((hvw.1.1))) ?_
        refine mn_icmp_ge (tgt := 88) dX10_isAsWanted_37 (by decide) (by omega) (by omega) (fun c37 => ?_) (fun c37 => ?_)
        · omega
        · refine mm_aload_n dX10_isAsWanted_40 rfl 0 rfl ?_
          refine cm_getR (b := 36) dX10_isAsWanted_41 ha zr_X10_14 (by decide) rfl rfl rfl ?_
          refine cm_getR (b := 39) dX10_isAsWanted_44 ha zr_X10_75 (by decide) rfl rfl rfl ?_
          refine mm_iload_n dX10_isAsWanted_47 rfl 2 rfl ?_
          refine cm_callVr (As := [.int (nI (i))]) (rest := []) (d2 := 0) dX10_isAsWanted_48 ha (by decide) rfl zz_clX6 zc_X10_99 zs_X6_sortAt rfl rfl (Nat.le_of_ble_eq_true rfl) (Nat.le_of_ble_eq_true rfl) (by decide) (cr_sortAt (r := 39) (sz := (wl cs).length) (i := i) ha hra hvw.1.1 hvw.1.2 (by omega)) ?_
          refine mn_top (u := .int (nI (t.1))) (congrArg Value.int ((if_pos (show i < (wl cs).length by omega)).trans h40)) ?_
          refine mm_iconst (v := nI 1) dX10_isAsWanted_51 (by decide) ?_
          refine mn_icmp_ne (tgt := 82) dX10_isAsWanted_52 (by decide) (by omega) (by omega) (fun c52 => ?_) (fun c52 => ?_)
          · rw [if_neg c52] at hkn
            refine mn_iinc (m := 1) (L' := [(2, .int (nI (i + 1))), (0, .ref (o + 35)), (1, .int (nI (k)))]) dX10_isAsWanted_82 (by decide) 2 rfl (by decide) rfl ?_
            refine mm_goto (tgt := 26) dX10_isAsWanted_85 (by decide) ?_
            refine mn_sub [1, 2, 0] rfl ?_
            exact ih (i + 1) (k) hel2 (by omega) (by omega) (by rw [hob, nk_d c52])
          · rw [if_pos c52] at hkn
            rw [nk_n c52] at hob
            refine mm_iload_n dX10_isAsWanted_55 rfl 1 rfl ?_
            refine mm_iconst (v := nI 3) dX10_isAsWanted_56 (by decide) ?_
            refine mn_icmp_ge (tgt := 77) dX10_isAsWanted_57 (by decide) (by omega) (by omega) (fun c57 => ?_) (fun c57 => ?_)
            · omega
            · refine mm_aload_n dX10_isAsWanted_60 rfl 0 rfl ?_
              refine cm_getR (b := 36) dX10_isAsWanted_61 ha zr_X10_14 (by decide) rfl rfl rfl ?_
              refine mm_iload_n dX10_isAsWanted_64 rfl 2 rfl ?_
              refine cm_callVr (As := [.int (nI (i))]) (rest := []) (d2 := 0) dX10_isAsWanted_65 ha (by decide) rfl zz_clX9 zc_X10_102 zs_X9_ticksAt rfl rfl (Nat.le_of_ble_eq_true rfl) (Nat.le_of_ble_eq_true rfl) (by decide) (cv_ticksAt (a := 36) (i := i) ha hva (by omega)) ?_
              refine mn_top (u := .int (nI (aV y i))) (congrArg Value.int ((if_pos (show i < 24 by omega)).trans hvi)) ?_
              refine mm_aload_n dX10_isAsWanted_68 rfl 0 rfl ?_
              refine cm_getR (b := 46) dX10_isAsWanted_69 ha zr_X10_18 (by decide) rfl rfl rfl ?_
              refine mm_iload_n dX10_isAsWanted_72 rfl 1 rfl ?_
              refine cm_iald (i := k) dX10_isAsWanted_73 ha (by decide) rfl (by omega) (by decide) ?_
              refine mn_top (u := .int (wv k)) (congrArg Value.int ((hwv k (by omega)))) ?_
              refine mm_icmp_eq (tgt := 79) dX10_isAsWanted_74 (by decide) (fun c74 => ?_) (fun c74 => ?_)
              · rw [decide_eq_true c74] at hob
                refine mn_iinc (m := 1) (L' := [(1, .int (nI (k + 1))), (0, .ref (o + 35)), (2, .int (nI (i)))]) dX10_isAsWanted_79 (by decide) 1 rfl (by decide) rfl ?_
                refine mn_iinc (m := 1) (L' := [(2, .int (nI (i + 1))), (1, .int (nI (k + 1))), (0, .ref (o + 35))]) dX10_isAsWanted_82 (by decide) 2 rfl (by decide) rfl ?_
                refine mm_goto (tgt := 26) dX10_isAsWanted_85 (by decide) ?_
                refine mn_sub [2, 1, 0] rfl ?_
                exact ih (i + 1) (k + 1) hel2 (by omega) (by omega) (hob)
              · rw [decide_eq_false c74] at hob
                refine mm_iconst (v := nI 0) dX10_isAsWanted_77 (by decide) ?_
                refine mn_top (u := .int (nI (Bool.toNat (wok sg wv cs)))) (congrArg Value.int (by rw [hob]; rfl)) ?_
                exact mm_zret dX10_isAsWanted_78 rfl (by exact mn_nz _) (⟨rfl, rfl⟩)
    · refine mm_iconst (v := nI 0) dX10_isAsWanted_20 (by decide) ?_
      refine mn_top (u := .int (nI (Bool.toNat (wok sg wv cs)))) (congrArg Value.int (by rw [hno (Or.inr c17)]; rfl)) ?_
      exact mm_zret dX10_isAsWanted_21 rfl (by exact mn_nz _) (⟨rfl, rfl⟩)
set_option maxRecDepth 100000 in
set_option maxHeartbeats 4000000 in
theorem cw_keep {l : Launch} {D : va_G} {aa : Nat → ClassId} {b0 : Nat} {h : mm_H} {o : Nat} {X : Nat → Nat → Int32} {Y : Nat → Nat → Int64} {rl : Option Nat} {cs : List Nat} (ha : cm_at o X Y rl h) (hvw : vw_ X 36 (wW cs)) (hcl : cs.length ≤ 3) (hc : ∀ c ∈ cs, c < 14) : mm_V (zz_K l D aa b0) 1 yX10_keep cX10_keep 2 (some .int) 0 [(0, .ref (o + 35))] [] h 0 0 (fun rv h' => rv = some (.int (nI (wl cs).length)) ∧ ∃ X' : Nat → Nat → Int32, cm_at o X' Y rl h' ∧ cm_fr o h h' ∧ X' 35 9 = nI (wl cs).length ∧ (∀ i, i < (wl cs).length → X' 50 i = if ((wl cs).getD i (0, 0)).1 = 3 then nI 7 else nI ((wl cs).getD i (0, 0)).2) ∧ (∀ i, (wl cs).length ≤ i → X' 50 i = X 50 i) ∧ ∀ b i, ¬ (b = 35 ∧ i = 9) → b ≠ 50 → X' b i = X b i) := by
  have hf := cm_fr.rf (o := o) (h := h)
  have hra : rA 39 := Or.inl rfl
  have hlen := wl_len cs
  refine mm_aload_n dX10_keep_0 rfl 0 rfl ?_
  refine mm_aload_n dX10_keep_1 rfl 0 rfl ?_
  refine cm_getR (b := 36) dX10_keep_2 ha zr_X10_14 (by decide) rfl rfl rfl ?_
  refine cm_getR (b := 39) dX10_keep_5 ha zr_X10_75 (by decide) rfl rfl rfl ?_
  refine cm_getI dX10_keep_8 ha zr_X10_79 (by decide) rfl rfl ?_
  refine mn_top (u := .int (nI ((wl cs).length))) (congrArg Value.int ((hvw.1.1))) ?_
  refine mm_aload_n dX10_keep_11 rfl 0 rfl ?_
  refine cm_getR (b := 50) dX10_keep_12 ha zr_X10_31 (by decide) rfl rfl rfl ?_
  refine cm_alenI dX10_keep_15 ha (by decide) rfl ?_
  refine mm_mmin dX10_keep_16 zc_X10_38 (Nat.le_of_ble_eq_true rfl) ?_
  refine mn_top (u := .int (nI ((wl cs).length))) (congrArg Value.int ((mi_n (by omega) (by omega)).trans (by congr 1; split <;> omega))) ?_
  refine cm_putI dX10_keep_19 ha hf zp_X10_105 (by decide) rfl rfl rfl rfl (fun h2 ha hf => ?_)
  refine mm_iconst (v := nI 0) dX10_keep_22 (by decide) ?_
  refine mm_istore_n (L' := [(1, .int (nI (0))), (0, .ref (o + 35))]) dX10_keep_23 rfl (by decide) rfl ?_
  refine mn_sub [1, 0] rfl ?_
  suffices lp : ∀ (m i : Nat) (X1 : Nat → Nat → Int32) (h1 : mm_H), i + m = (wl cs).length → X1 35 9 = nI (wl cs).length → (∀ j, j < i → X1 50 j = if ((wl cs).getD j (0, 0)).1 = 3 then nI 7 else nI ((wl cs).getD j (0, 0)).2) → (∀ j, i ≤ j → X1 50 j = X 50 j) → (∀ b i, ¬ (b = 35 ∧ i = 9) → b ≠ 50 → X1 b i = X b i) → cm_at o X1 Y rl h1 → cm_fr o h h1 → mm_V (zz_K l D aa b0) 1 yX10_keep cX10_keep 2 (some .int) 24 [(0, .ref (o + 35)), (1, .int (nI (i)))] [] h1 0 0 (fun rv h' => rv = some (.int (nI (wl cs).length)) ∧ ∃ X' : Nat → Nat → Int32, cm_at o X' Y rl h' ∧ cm_fr o h h' ∧ X' 35 9 = nI (wl cs).length ∧ (∀ i, i < (wl cs).length → X' 50 i = if ((wl cs).getD i (0, 0)).1 = 3 then nI 7 else nI ((wl cs).getD i (0, 0)).2) ∧ (∀ i, (wl cs).length ≤ i → X' 50 i = X 50 i) ∧ ∀ b i, ¬ (b = 35 ∧ i = 9) → b ≠ 50 → X' b i = X b i) from lp (wl cs).length 0 (xu X 35 9 (nI ((wl cs).length))) _ (Nat.zero_add _) xu_s (fun j hj => absurd hj (Nat.not_lt_zero _)) (fun j _ => xu_a (by decide)) (fun b i n1 _ => xu_z n1) ha hf
  intro m
  induction m with
  | zero =>
    intro i X1 h1 him h9 hk1 hk2 hfx ha hf
    refine mm_iload_n dX10_keep_24 rfl 1 rfl ?_
    refine mm_aload_n dX10_keep_25 rfl 0 rfl ?_
    refine cm_getI dX10_keep_26 ha zr_X10_105 (by decide) rfl rfl ?_
    refine mn_top (u := .int (nI ((wl cs).length))) (congrArg Value.int ((h9))) ?_
    refine mn_icmp_ge (tgt := 75) dX10_keep_29 (by decide) (by omega) (by omega) (fun c29 => ?_) (fun c29 => ?_)
    · have e : i = (wl cs).length := by omega
      rw [e] at hk1 hk2
      refine mm_aload_n dX10_keep_75 rfl 0 rfl ?_
      refine cm_getI dX10_keep_76 ha zr_X10_105 (by decide) rfl rfl ?_
      refine mn_top (u := .int (nI ((wl cs).length))) (congrArg Value.int ((h9))) ?_
      exact mm_iret dX10_keep_79 rfl (⟨rfl, X1, ha, hf, h9, hk1, hk2, hfx⟩)
    · omega
  | succ m ih =>
    intro i X1 h1 him h9 hk1 hk2 hfx ha hf
    refine mm_iload_n dX10_keep_24 rfl 1 rfl ?_
    refine mm_aload_n dX10_keep_25 rfl 0 rfl ?_
    refine cm_getI dX10_keep_26 ha zr_X10_105 (by decide) rfl rfl ?_
    refine mn_top (u := .int (nI ((wl cs).length))) (congrArg Value.int ((h9))) ?_
    refine mn_icmp_ge (tgt := 75) dX10_keep_29 (by decide) (by omega) (by omega) (fun c29 => ?_) (fun c29 => ?_)
    · omega
    · have hil : i < (wl cs).length := by omega
      obtain ⟨hin, hk7⟩ := wl_in cs i hil
      have hk7 := hk7 hc
      have ht4 : ((wl cs).getD i (0, 0)).1 < 4 := by rcases hin with z | z <;> rw [z] <;> decide
      have hvi := hvw.2 i hil
      have h396 : X1 39 6 = nI (wl cs).length := (hfx 39 6 (by decide) (by decide)).trans hvw.1.1
      have h40 : X1 40 i = nI ((wl cs).getD i (0, 0)).1 := (hfx 40 i (by omega) (by decide)).trans hvi.1
      have h41 : X1 41 i = (if ((wl cs).getD i (0, 0)).1 = 3 then -1 else nI ((wl cs).getD i (0, 0)).2) := (hfx 41 i (by omega) (by decide)).trans hvi.2.2.1
      refine mm_aload_n dX10_keep_32 rfl 0 rfl ?_
      refine cm_getR (b := 50) dX10_keep_33 ha zr_X10_31 (by decide) rfl rfl rfl ?_
      refine mm_iload_n dX10_keep_36 rfl 1 rfl ?_
      refine mm_aload_n dX10_keep_37 rfl 0 rfl ?_
      refine cm_getR (b := 36) dX10_keep_38 ha zr_X10_14 (by decide) rfl rfl rfl ?_
      refine cm_getR (b := 39) dX10_keep_41 ha zr_X10_75 (by decide) rfl rfl rfl ?_
      refine mm_iload_n dX10_keep_44 rfl 1 rfl ?_
      refine cm_callVr (As := [.int (nI (i))]) (rest := [.int (nI (i)), .ref (o + 50)]) (d2 := 0) dX10_keep_45 ha (by decide) rfl zz_clX6 zc_X10_99 zs_X6_sortAt rfl rfl (Nat.le_of_ble_eq_true rfl) (Nat.le_of_ble_eq_true rfl) (by decide) (cr_sortAt (r := 39) (sz := (wl cs).length) (i := i) ha hra h396 hvw.1.2 (by omega)) ?_
      refine mn_top (u := .int (nI (((wl cs).getD i (0, 0)).1))) (congrArg Value.int ((if_pos hil).trans h40)) ?_
      refine mm_iconst (v := nI 3) dX10_keep_48 (by decide) ?_
      refine mn_icmp_ne (tgt := 57) dX10_keep_49 (by decide) (by omega) (by omega) (fun c49 => ?_) (fun c49 => ?_)
      · rw [if_neg c49] at h41
        refine mm_aload_n dX10_keep_57 rfl 0 rfl ?_
        refine cm_getR (b := 36) dX10_keep_58 ha zr_X10_14 (by decide) rfl rfl rfl ?_
        refine cm_getR (b := 39) dX10_keep_61 ha zr_X10_75 (by decide) rfl rfl rfl ?_
        refine mm_iload_n dX10_keep_64 rfl 1 rfl ?_
        refine cm_callVr (As := [.int (nI (i))]) (rest := [.int (nI (i)), .ref (o + 50)]) (d2 := 0) dX10_keep_65 ha (by decide) rfl zz_clX6 zc_X10_108 zs_X6_kindAt rfl rfl (Nat.le_of_ble_eq_true rfl) (Nat.le_of_ble_eq_true rfl) (by decide) (cr_kindAt (r := 39) (sz := (wl cs).length) (i := i) ha hra h396 hvw.1.2 (by omega)) ?_
        refine mn_top (u := .int (if ((wl cs).getD i (0, 0)).1 = 3 then nI 7 else nI ((wl cs).getD i (0, 0)).2)) (congrArg Value.int ((if_pos hil).trans (h41.trans (if_neg c49).symm))) ?_
        refine cm_iast (i := i) dX10_keep_68 ha hf (by decide) rfl (by omega) (by decide) (fun h1 ha hf => ?_)
        refine mn_iinc (m := 1) (L' := [(1, .int (nI (i + 1))), (0, .ref (o + 35))]) dX10_keep_69 (by decide) 1 rfl (by decide) rfl ?_
        refine mm_goto (tgt := 24) dX10_keep_72 (by decide) ?_
        refine mn_sub [1, 0] rfl ?_
        refine ih (i + 1) _ _ (by omega) ((xu_a (by decide)).trans h9) (fun j hj => ?_) (fun j hj => (xu_i (by omega)).trans (hk2 j (by omega))) (fun b j n1 n2 => (xu_a n2).trans (hfx b j n1 n2)) ha hf
        by_cases e : j = i
        · rw [e]; exact xu_s
        · exact (xu_i e).trans (hk1 j (by omega))
      · refine mm_bipush (v := nI 7) dX10_keep_52 (by decide) ?_
        refine mm_goto (tgt := 68) dX10_keep_54 (by decide) ?_
        refine mn_top (u := .int (if ((wl cs).getD i (0, 0)).1 = 3 then nI 7 else nI ((wl cs).getD i (0, 0)).2)) (congrArg Value.int ((if_pos c49).symm)) ?_
        refine cm_iast (i := i) dX10_keep_68 ha hf (by decide) rfl (by omega) (by decide) (fun h1 ha hf => ?_)
        refine mn_iinc (m := 1) (L' := [(1, .int (nI (i + 1))), (0, .ref (o + 35))]) dX10_keep_69 (by decide) 1 rfl (by decide) rfl ?_
        refine mm_goto (tgt := 24) dX10_keep_72 (by decide) ?_
        refine mn_sub [1, 0] rfl ?_
        refine ih (i + 1) _ _ (by omega) ((xu_a (by decide)).trans h9) (fun j hj => ?_) (fun j hj => (xu_i (by omega)).trans (hk2 j (by omega))) (fun b j n1 n2 => (xu_a n2).trans (hfx b j n1 n2)) ha hf
        by_cases e : j = i
        · rw [e]; exact xu_s
        · exact (xu_i e).trans (hk1 j (by omega))
