/-! the reference: voices that meet, counted -/
theorem sw_f {x z : Int} (h : ¬ ((x - z).natAbs % 7 = 0 ∨ (x - z).natAbs % 7 = 2 ∨ (x - z).natAbs % 7 = 4 ∨ (x - z).natAbs % 7 = 5)) : swt x z = false := by
  unfold swt
  rw [decide_eq_false (by omega), decide_eq_false (by omega), decide_eq_false (by omega), decide_eq_false (by omega)]
  rfl
set_option maxRecDepth 100000 in
set_option maxHeartbeats 4000000 in
theorem tM_meet {l : Launch} {D : va_G} {aa : Nat → ClassId} {b0 : Nat} {h : mm_H} {o : Nat} {F : Nat → Int32} {G : Nat → Int64} {A : Nat → Nat → Int32} {B : Nat → Nat → Int64} {s : aS} {n p w : Nat} {y yP : gR} (ha : rm_at o F G A B h) (hW : WF s) (hI : RI s F A B) (hn : n < aNv s) (hp : p < aNv s) (hw : w < 2) (hN : (aR s n).length ≤ 1000) (hL0 : 0 < (aR s n).length) (hy : (aR s n)[aPk s n]? = some y) (hNP : (aR s p).length ≤ 1000) (hL0P : 0 < (aR s p).length) (hyP : (aR s p)[aPk s p]? = some yP) : mm_V (zz_K l D aa b0) 10 yX12_meet cX12_meet 12 (some .int) 0 [(0, .ref (o)), (1, .int (nI (n))), (2, .int (nI (p))), (3, .int (nI (w)))] [] h 0 0 (fun r h' => r = some (.int (nI (mtI s n p y yP w (aSz s p) (aSz s n)))) ∧ ∃ (F' : Nat → Int32) (G' : Nat → Int64) (A' : Nat → Nat → Int32) (B' : Nat → Nat → Int64), rm_at o F' G' A' B' h' ∧ rm_fr o h h' ∧ RI s F' A' B') := by
  have hf : rm_fr o h h := rm_fr.rf
  have hn6 : n < 6 := by have := hW.1.1; omega
  have hvok := hW.2.1 n hn6
  have hsz24 : aSz s n ≤ 24 := hvok.1.2
  have hn6P : p < 6 := by have := hW.1.1; omega
  have hvokP := hW.2.1 p hn6P
  have hsz24P : aSz s p ≤ 24 := hvokP.1.2
  have hpi : ∀ v, v < 6 → ∀ i, i < aSz s v → -40 ≤ aPi s (24 * v + i) ∧ aPi s (24 * v + i) ≤ 40 := fun v hv i hi => ((hW.2.1 v hv).2.2.2.1 i hi).2.2.1
  have p5 := ((hI).1.2 n hn6).2.2.2.2.1
  refine mm_aload_n dX12_meet_0 rfl 0 rfl ?_
  refine mm_iload_n dX12_meet_1 rfl 1 rfl ?_
  refine rm_callVr (As := [.int (nI (n))]) (rest := []) (d2 := 1) dX12_meet_2 ha zc_isVoice zc_isVoice_s rfl rfl rfl (Nat.le_of_ble_eq_true rfl) (Nat.le_of_ble_eq_true rfl) (by decide) (tM_isVoice ha hW hI (nI_inb hn (by have := hW.1.1; omega))) ?_
  refine mn_ifB_eq (tgt := 26) dX12_meet_5 (by decide) (fun c5 => ?_) (fun c5 => ?_)
  · cases c5
  · refine mm_aload_n dX12_meet_8 rfl 0 rfl ?_
    refine mm_iload_n dX12_meet_9 rfl 2 rfl ?_
    refine rm_callVr (As := [.int (nI (p))]) (rest := []) (d2 := 1) dX12_meet_10 ha zc_isVoice zc_isVoice_s rfl rfl rfl (Nat.le_of_ble_eq_true rfl) (Nat.le_of_ble_eq_true rfl) (by decide) (tM_isVoice ha hW hI (nI_inb hp (by have := hW.1.1; omega))) ?_
    refine mn_ifB_eq (tgt := 26) dX12_meet_13 (by decide) (fun c13 => ?_) (fun c13 => ?_)
    · cases c13
    · refine mm_iload_n dX12_meet_16 rfl 3 rfl ?_
      refine mm_i2l dX12_meet_17 ?_
      refine mm_lconst (v := lN 0) dX12_meet_18 (by decide) ?_
      refine mm_lconst (v := lN 1) dX12_meet_19 (by decide) ?_
      refine rm_callSr (As := [.long ((nI (w)).toInt64), .long (lN (0)), .long (lN (1))]) (rest := []) (d2 := 0) dX12_meet_20 zc_isIn rfl rfl (Nat.le_of_ble_eq_true rfl) (Nat.le_of_ble_eq_true rfl) (by decide) (tm_isIn _ _ _) ?_
      refine mn_top (u := .int (nI (Bool.toNat (true)))) (congrArg Value.int (in_t (a := 0) (b := 1) (by decide) (by decide) (by omega) (by omega) ((nI_inb hw (by decide)).imp id (fun z => by omega)))) ?_
      refine mn_ifB_ne (tgt := 29) dX12_meet_23 (by decide) (fun c23 => ?_) (fun c23 => ?_)
      · refine mm_aload_n dX12_meet_29 rfl 0 rfl ?_
        refine mm_iload_n dX12_meet_30 rfl 1 rfl ?_
        refine mm_aload_n dX12_meet_31 rfl 0 rfl ?_
        refine rm_getA 5 dX12_meet_32 ha zf_pickedOf (by decide) rfl ?_
        refine mm_iload_n dX12_meet_35 rfl 1 rfl ?_
        refine rm_iald (k := 5) dX12_meet_36 ha rfl rfl rfl (show n < 6 from (by omega)) ?_
        refine mn_top (u := .int (nI (aPk s n))) (congrArg Value.int (p5)) ?_
        refine rm_callV (As := [.int (nI (n)), .int (nI (aPk s n))]) (rest := []) (d2 := 9) dX12_meet_37 ha zc_find zc_find_s rfl rfl rfl (Nat.le_of_ble_eq_true rfl) (Nat.le_of_ble_eq_true rfl) (by decide) (tM_find ha hW hI hn hN (pk_ltL hW hn6 hL0)) (fun r h1 hq => ?_)
        obtain ⟨q, y2, rfl, hq, hy2, F1, A1, ha, hf', hI1, -, hvl, -⟩ := hq
        have hf := hf.tr hf'
        have ey : y = y2 := Option.some.inj (hy.symm.trans hy2)
        subst ey
        clear hvl
        have p5P := ((hI1).1.2 p hn6P).2.2.2.2.1
        refine mm_istore (L' := [(4, .int (nI (q))), (0, .ref (o)), (1, .int (nI (n))), (2, .int (nI (p))), (3, .int (nI (w)))]) dX12_meet_40 (by decide) rfl ?_
        refine mm_aload_n dX12_meet_42 rfl 1 rfl ?_
        refine mm_iload_n dX12_meet_43 rfl 3 rfl ?_
        refine mm_aload_n dX12_meet_44 rfl 1 rfl ?_
        refine rm_getA 5 dX12_meet_45 ha zf_pickedOf (by decide) rfl ?_
        refine mm_iload_n dX12_meet_48 rfl 3 rfl ?_
        refine rm_iald (k := 5) dX12_meet_49 ha rfl rfl rfl (show p < 6 from (by omega)) ?_
        refine mn_top (u := .int (nI (aPk s p))) (congrArg Value.int (p5P)) ?_
        refine rm_callV (As := [.int (nI (p)), .int (nI (aPk s p))]) (rest := []) (d2 := 9) dX12_meet_50 ha zc_find zc_find_s rfl rfl rfl (Nat.le_of_ble_eq_true rfl) (Nat.le_of_ble_eq_true rfl) (by decide) (tM_find ha hW hI1 hp hNP (pk_ltL hW hn6P hL0P)) (fun r h1 hq => ?_)
        obtain ⟨qP, y2, rfl, hqP, hy2, F2, A2, ha, hf', hI2, -, hvlP, -⟩ := hq
        have hf := hf.tr hf'
        have ey : yP = y2 := Option.some.inj (hyP.symm.trans hy2)
        subst ey
        refine mm_istore (L' := [(5, .int (nI (qP))), (4, .int (nI (q))), (0, .ref (o)), (1, .int (nI (n))), (2, .int (nI (p))), (3, .int (nI (w)))]) dX12_meet_53 (by decide) rfl ?_
        refine mm_iload dX12_meet_55 1 rfl ?_
        refine mm_bipush (v := (-4)) dX12_meet_57 (by decide) ?_
        refine mm_icmp_eq (tgt := 69) dX12_meet_59 (by decide) (fun c59 => ?_) (fun c59 => ?_)
        · exact absurd c59 (nI_n4 (by omega))
        · refine mm_iload dX12_meet_62 0 rfl ?_
          refine mm_bipush (v := (-4)) dX12_meet_64 (by decide) ?_
          refine mm_icmp_ne (tgt := 72) dX12_meet_66 (by decide) (fun c66 => ?_) (fun c66 => ?_)
          · refine mm_iload dX12_meet_72 1 rfl ?_
            refine mn_if_lt (tgt := 82) dX12_meet_74 (by decide) (by omega) ?_
            refine mm_iload dX12_meet_77 0 rfl ?_
            refine mn_if_ge (tgt := 84) dX12_meet_79 (by decide) (by omega) ?_
            have hsy2 := hI2.2.1
            have sP := (hI2.1.2 p hn6P).2.1.1
            refine mm_iconst (v := nI 0) dX12_meet_84 (by decide) ?_
            refine mm_istore (L' := [(6, .int (nI (0))), (5, .int (nI (qP))), (4, .int (nI (q))), (0, .ref (o)), (1, .int (nI (n))), (2, .int (nI (p))), (3, .int (nI (w)))]) dX12_meet_85 (by decide) rfl ?_
            refine mn_sub [0, 1, 3, 4, 5, 6] rfl ?_
            suffices lp : ∀ (c j : Nat) (G1 : Nat → Int64) (B1 : Nat → Nat → Int64) (h2 : mm_H), j + c = aSz s p → (∀ i, i < j → B1 46 i = lN (aT s p yP i).1 ∧ B1 47 i = lN (aT s p yP i).2) → RI s F2 A2 B1 → rm_at o F2 G1 A2 B1 h2 → rm_fr o h h2 → mm_V (zz_K l D aa b0) 10 yX12_meet cX12_meet 12 (some .int) 87 [(6, .int (nI (j))), (5, .int (nI (qP))), (0, .ref (o)), (1, .int (nI (n))), (2, .int (nI (p))), (3, .int (nI (w)))] [] h2 0 0 (fun r h' => r = some (.int (nI (mtI s n p y yP w (aSz s p) (aSz s n)))) ∧ ∃ (F' : Nat → Int32) (G' : Nat → Int64) (A' : Nat → Nat → Int32) (B' : Nat → Nat → Int64), rm_at o F' G' A' B' h' ∧ rm_fr o h h' ∧ RI s F' A' B') from lp (aSz s p) 0 _ B _ (by omega) (fun i hi => by omega) hI2 ha hf
            intro c
            induction c with
            | zero =>
              intro j G1 B1 h2 hjc hbv hI3 ha hf
              refine mm_iload dX12_meet_87 0 rfl ?_
              refine mm_aload_n dX12_meet_89 rfl 2 rfl ?_
              refine rm_getA 2 dX12_meet_90 ha zf_sizeOf (by decide) rfl ?_
              refine mm_iload_n dX12_meet_93 rfl 4 rfl ?_
              refine rm_iald (k := 2) dX12_meet_94 ha rfl rfl rfl (show p < 6 from (by omega)) ?_
              refine mn_top (u := .int (nI (aSz s p))) (congrArg Value.int (sP)) ?_
              refine mn_icmp_ge (tgt := 135) dX12_meet_95 (by decide) (by omega) (by omega) (fun c95 => ?_) (fun c95 => ?_)
              · have hbv : ∀ i, i < aSz s p → B1 46 i = lN (aT s p yP i).1 ∧ B1 47 i = lN (aT s p yP i).2 := fun i hi => hbv i (by omega)
                have p5n := ((hI3).1.2 n hn6).2.2.2.2.1
                refine mm_aload_n dX12_meet_135 rfl 2 rfl ?_
                refine mm_iload_n dX12_meet_136 rfl 3 rfl ?_
                refine mm_aload_n dX12_meet_137 rfl 2 rfl ?_
                refine rm_getA 5 dX12_meet_138 ha zf_pickedOf (by decide) rfl ?_
                refine mm_iload_n dX12_meet_141 rfl 3 rfl ?_
                refine rm_iald (k := 5) dX12_meet_142 ha rfl rfl rfl (show n < 6 from (by omega)) ?_
                refine mn_top (u := .int (nI (aPk s n))) (congrArg Value.int (p5n)) ?_
                refine rm_callV (As := [.int (nI (n)), .int (nI (aPk s n))]) (rest := []) (d2 := 9) dX12_meet_143 ha zc_find zc_find_s rfl rfl rfl (Nat.le_of_ble_eq_true rfl) (Nat.le_of_ble_eq_true rfl) (by decide) (tM_find ha hW hI3 hn hN (pk_ltL hW hn6 hL0)) (fun r h1 hq => ?_)
                obtain ⟨q, y2, rfl, hq, hy2, F3, A3, ha, hf', hI4, -, hvl, -⟩ := hq
                have hf := hf.tr hf'
                have ey : y = y2 := Option.some.inj (hy.symm.trans hy2)
                subst ey
                have hsy := hI4.2.1
                have sn := (hI4.1.2 n hn6).2.1.1
                have sp := (hI4.1.2 p hn6P).2.1.1
                refine mm_istore (L' := [(4, .int (nI (q))), (6, .int (nI (j))), (5, .int (nI (qP))), (0, .ref (o)), (1, .int (nI (n))), (2, .int (nI (p))), (3, .int (nI (w)))]) dX12_meet_146 (by decide) rfl ?_
                refine mm_iconst (v := nI 0) dX12_meet_148 (by decide) ?_
                refine mm_istore (L' := [(6, .int (nI (0))), (4, .int (nI (q))), (5, .int (nI (qP))), (0, .ref (o)), (1, .int (nI (n))), (2, .int (nI (p))), (3, .int (nI (w)))]) dX12_meet_149 (by decide) rfl ?_
                refine mm_iconst (v := nI 0) dX12_meet_151 (by decide) ?_
                refine mm_istore (L' := [(7, .int (nI (0))), (6, .int (nI (0))), (4, .int (nI (q))), (5, .int (nI (qP))), (0, .ref (o)), (1, .int (nI (n))), (2, .int (nI (p))), (3, .int (nI (w)))]) dX12_meet_152 (by decide) rfl ?_
                refine mm_iconst (v := nI 0) dX12_meet_154 (by decide) ?_
                refine mm_istore (L' := [(8, .int (nI (0))), (7, .int (nI (0))), (6, .int (nI (0))), (4, .int (nI (q))), (5, .int (nI (qP))), (0, .ref (o)), (1, .int (nI (n))), (2, .int (nI (p))), (3, .int (nI (w)))]) dX12_meet_155 (by decide) rfl ?_
                refine mn_sub [0, 1, 2, 3, 5, 6, 7, 8] rfl ?_
                suffices lp2 : ∀ (c i : Nat) (G4 : Nat → Int64) (h4 : mm_H), i + c = aSz s n → rm_at o F3 G4 A3 B1 h4 → rm_fr o h h4 → mm_V (zz_K l D aa b0) 10 yX12_meet cX12_meet 12 (some .int) 157 [(8, .int (nI (i))), (7, .int (nI (mtI s n p y yP 1 (aSz s p) i))), (6, .int (nI (mtI s n p y yP 0 (aSz s p) i))), (4, .int (nI (q))), (0, .ref (o)), (1, .int (nI (n))), (2, .int (nI (p))), (3, .int (nI (w)))] [] h4 0 0 (fun r h' => r = some (.int (nI (mtI s n p y yP w (aSz s p) (aSz s n)))) ∧ ∃ (F' : Nat → Int32) (G' : Nat → Int64) (A' : Nat → Nat → Int32) (B' : Nat → Nat → Int64), rm_at o F' G' A' B' h' ∧ rm_fr o h h' ∧ RI s F' A' B') from lp2 (aSz s n) 0 _ _ (by omega) ha hf
                intro c
                induction c with
                | zero =>
                  intro i G4 h4 hic ha hf
                  have hm2 : i * aSz s p ≤ 24 * 24 := Nat.mul_le_mul (by omega) hsz24P
                  have hmi0 := mtI_le (s := s) (a := n) (b := p) (y := y) (z := yP) (w := 0) (m := aSz s p) i
                  have hmi1 := mtI_le (s := s) (a := n) (b := p) (y := y) (z := yP) (w := 1) (m := aSz s p) i
                  refine mm_iload dX12_meet_157 0 rfl ?_
                  refine mm_aload_n dX12_meet_159 rfl 4 rfl ?_
                  refine rm_getA 2 dX12_meet_160 ha zf_sizeOf (by decide) rfl ?_
                  refine mm_iload_n dX12_meet_163 rfl 5 rfl ?_
                  refine rm_iald (k := 2) dX12_meet_164 ha rfl rfl rfl (show n < 6 from (by omega)) ?_
                  refine mn_top (u := .int (nI (aSz s n))) (congrArg Value.int (sn)) ?_
                  refine mn_icmp_ge (tgt := 372) dX12_meet_165 (by decide) (by omega) (by omega) (fun c165 => ?_) (fun c165 => ?_)
                  · have e : i = aSz s n := by omega
                    refine mm_iload_n dX12_meet_372 rfl 7 rfl ?_
                    refine mn_if_ne (tgt := 381) dX12_meet_373 (by decide) (by omega) (fun c373 => ?_) (fun c373 => ?_)
                    · refine mm_iload dX12_meet_381 1 rfl ?_
                      exact mm_iret dX12_meet_383 rfl (⟨by rw [e, show w = 1 from by omega], F3, G4, A3, B1, ha, hf, hI4⟩)
                    · refine mm_iload dX12_meet_376 2 rfl ?_
                      refine mm_goto (tgt := 383) dX12_meet_378 (by decide) ?_
                      exact mm_iret dX12_meet_383 rfl (⟨by rw [e, show w = 0 from by omega], F3, G4, A3, B1, ha, hf, hI4⟩)
                  · omega
                | succ c ih =>
                  intro i G4 h4 hic ha hf
                  have hm2 : i * aSz s p ≤ 24 * 24 := Nat.mul_le_mul (by omega) hsz24P
                  have hmi0 := mtI_le (s := s) (a := n) (b := p) (y := y) (z := yP) (w := 0) (m := aSz s p) i
                  have hmi1 := mtI_le (s := s) (a := n) (b := p) (y := y) (z := yP) (w := 1) (m := aSz s p) i
                  refine mm_iload dX12_meet_157 0 rfl ?_
                  refine mm_aload_n dX12_meet_159 rfl 4 rfl ?_
                  refine rm_getA 2 dX12_meet_160 ha zf_sizeOf (by decide) rfl ?_
                  refine mm_iload_n dX12_meet_163 rfl 5 rfl ?_
                  refine rm_iald (k := 2) dX12_meet_164 ha rfl rfl rfl (show n < 6 from (by omega)) ?_
                  refine mn_top (u := .int (nI (aSz s n))) (congrArg Value.int (sn)) ?_
                  refine mn_icmp_ge (tgt := 372) dX12_meet_165 (by decide) (by omega) (by omega) (fun c165 => ?_) (fun c165 => ?_)
                  · omega
                  · have hi : i < aSz s n := by omega
                    have b1 := a_tb hW hn6 hy (i := i) (by omega)
                    obtain ⟨⟨a1, a2⟩, -, ⟨a3, -⟩, -⟩ := hsy (24 * n + i) (by omega)
                    refine mm_aload_n dX12_meet_168 rfl 4 rfl ?_
                    refine mm_iload_n dX12_meet_169 rfl 5 rfl ?_
                    refine mm_iload dX12_meet_170 3 rfl ?_
                    refine mm_iload dX12_meet_172 0 rfl ?_
                    refine rm_callV (As := [.int (nI (n)), .int (nI (q)), .int (nI (i))]) (rest := []) (d2 := 2) dX12_meet_174 ha zc_findTime zc_findTime_s rfl rfl rfl (Nat.le_of_ble_eq_true rfl) (Nat.le_of_ble_eq_true rfl) (by decide) (tM_findTime (m := i) (V := aV y) (ua := fun i => aUa s (24 * n + i)) (da := fun i => aDa s (24 * n + i)) ha hn6 hq (by omega) (fun i hi => hvl i (by omega)) (fun i hi => (hsy (24 * n + i) (by omega)).2.2.2.2.2.1) (fun i hi => (hsy (24 * n + i) (by omega)).2.2.2.2.1.1) (fun i hi => a_sz hW hn6 hy i (by omega)) (fun i hi => a_u1 hW hn6 i (by omega))) (fun r h1 hq => ?_)
                    obtain ⟨rfl, G5, ha, hf', h44, h45⟩ := hq
                    have hf := hf.tr hf'
                    refine mm_iconst (v := nI 0) dX12_meet_177 (by decide) ?_
                    refine mm_istore (L' := [(9, .int (nI (0))), (8, .int (nI (i))), (7, .int (nI (mtI s n p y yP 1 (aSz s p) i))), (6, .int (nI (mtI s n p y yP 0 (aSz s p) i))), (4, .int (nI (q))), (0, .ref (o)), (1, .int (nI (n))), (2, .int (nI (p))), (3, .int (nI (w)))]) dX12_meet_178 (by decide) rfl ?_
                    refine mn_sub [0, 1, 2, 3, 4, 5, 6, 7, 8] rfl ?_
                    suffices lq : ∀ (k j : Nat), j + k = aSz s p → mm_V (zz_K l D aa b0) 10 yX12_meet cX12_meet 12 (some .int) 180 [(9, .int (nI (j))), (8, .int (nI (i))), (7, .int (nI (mtI s n p y yP 1 (aSz s p) i + mtJ s n p y yP 1 i j))), (6, .int (nI (mtI s n p y yP 0 (aSz s p) i + mtJ s n p y yP 0 i j))), (4, .int (nI (q))), (0, .ref (o)), (1, .int (nI (n))), (2, .int (nI (p))), (3, .int (nI (w)))] [] h1 0 0 (fun r h' => r = some (.int (nI (mtI s n p y yP w (aSz s p) (aSz s n)))) ∧ ∃ (F' : Nat → Int32) (G' : Nat → Int64) (A' : Nat → Nat → Int32) (B' : Nat → Nat → Int64), rm_at o F' G' A' B' h' ∧ rm_fr o h h' ∧ RI s F' A' B') from lq (aSz s p) 0 (by omega)
                    intro k
                    induction k with
                    | zero =>
                      intro j hjk
                      have hmj0 := mtJ_le (s := s) (a := n) (b := p) (y := y) (z := yP) (w := 0) (i := i) j
                      have hmj1 := mtJ_le (s := s) (a := n) (b := p) (y := y) (z := yP) (w := 1) (i := i) j
                      refine mm_iload dX12_meet_180 0 rfl ?_
                      refine mm_aload_n dX12_meet_182 rfl 5 rfl ?_
                      refine rm_getA 2 dX12_meet_183 ha zf_sizeOf (by decide) rfl ?_
                      refine mm_iload_n dX12_meet_186 rfl 7 rfl ?_
                      refine rm_iald (k := 2) dX12_meet_187 ha rfl rfl rfl (show p < 6 from (by omega)) ?_
                      refine mn_top (u := .int (nI (aSz s p))) (congrArg Value.int (sp)) ?_
                      refine mn_icmp_ge (tgt := 366) dX12_meet_188 (by decide) (by omega) (by omega) (fun c188 => ?_) (fun c188 => ?_)
                      · have e : j = aSz s p := by omega
                        refine mn_iinc (m := 1) (L' := [(8, .int (nI (i + 1))), (9, .int (nI (j))), (7, .int (nI (mtI s n p y yP 1 (aSz s p) i + mtJ s n p y yP 1 i j))), (6, .int (nI (mtI s n p y yP 0 (aSz s p) i + mtJ s n p y yP 0 i j))), (4, .int (nI (q))), (0, .ref (o)), (1, .int (nI (n))), (2, .int (nI (p))), (3, .int (nI (w)))]) dX12_meet_366 (by decide) 1 rfl (by decide) rfl ?_
                        refine mm_goto (tgt := 157) dX12_meet_369 (by decide) ?_
                        refine mn_sub [0, 2, 3, 4, 5, 6, 7, 8] rfl ?_
                        have ih := ih (i + 1) _ _ (by omega) ha hf
                        rw [e]
                        exact ih
                      · omega
                    | succ k ih2 =>
                      intro j hjk
                      have hmj0 := mtJ_le (s := s) (a := n) (b := p) (y := y) (z := yP) (w := 0) (i := i) j
                      have hmj1 := mtJ_le (s := s) (a := n) (b := p) (y := y) (z := yP) (w := 1) (i := i) j
                      refine mm_iload dX12_meet_180 0 rfl ?_
                      refine mm_aload_n dX12_meet_182 rfl 5 rfl ?_
                      refine rm_getA 2 dX12_meet_183 ha zf_sizeOf (by decide) rfl ?_
                      refine mm_iload_n dX12_meet_186 rfl 7 rfl ?_
                      refine rm_iald (k := 2) dX12_meet_187 ha rfl rfl rfl (show p < 6 from (by omega)) ?_
                      refine mn_top (u := .int (nI (aSz s p))) (congrArg Value.int (sp)) ?_
                      refine mn_icmp_ge (tgt := 366) dX12_meet_188 (by decide) (by omega) (by omega) (fun c188 => ?_) (fun c188 => ?_)
                      · omega
                      · have hj : j < aSz s p := by omega
                        have b2 := a_tb hW hn6P hyP (i := j) (by omega)
                        obtain ⟨⟨c1, c2⟩, -, ⟨c3, -⟩, -⟩ := hsy (24 * p + j) (by omega)
                        obtain ⟨g1, g2⟩ := hbv j hj
                        have pa := hpi n hn6 i hi
                        have pb := hpi p hn6P j hj
                        have st0 : mtJ s n p y yP 0 i (j + 1) = mtJ s n p y yP 0 i j + Bool.toNat (mt1 s n p y yP 0 i j) := rfl
                        have st1 : mtJ s n p y yP 1 i (j + 1) = mtJ s n p y yP 1 i j + Bool.toNat (mt1 s n p y yP 1 i j) := rfl
                        have j305 : mm_V (zz_K l D aa b0) 10 yX12_meet cX12_meet 12 (some .int) 305 [(11, .int (nI ((aPi s (24 * n + i) - aPi s (24 * p + j)).natAbs % 7))), (10, .int (nI (Bool.toNat (mt1 s n p y yP 0 i j)))), (9, .int (nI (j))), (8, .int (nI (i))), (7, .int (nI (mtI s n p y yP 1 (aSz s p) i + mtJ s n p y yP 1 i j))), (6, .int (nI (mtI s n p y yP 0 (aSz s p) i + mtJ s n p y yP 0 i j))), (4, .int (nI (q))), (0, .ref (o)), (1, .int (nI (n))), (2, .int (nI (p))), (3, .int (nI (w)))] [] h1 0 0 (fun r h' => r = some (.int (nI (mtI s n p y yP w (aSz s p) (aSz s n)))) ∧ ∃ (F' : Nat → Int32) (G' : Nat → Int64) (A' : Nat → Nat → Int32) (B' : Nat → Nat → Int64), rm_at o F' G' A' B' h' ∧ rm_fr o h h' ∧ RI s F' A' B') := by
                          refine mm_iload dX12_meet_305 1 rfl ?_
                          refine mn_ifB_eq (tgt := 317) dX12_meet_307 (by decide) (fun c307 => ?_) (fun c307 => ?_)
                          · have s1 : mt1 s n p y yP 1 i j = false := by rw [mt_1, c307]; rfl
                            rw [c307] at st0
                            rw [s1] at st1
                            refine mm_iload dX12_meet_317 5 rfl ?_
                            refine mm_istore (L' := [(6, .int (nI (mtI s n p y yP 0 (aSz s p) i + mtJ s n p y yP 0 i j))), (11, .int (nI ((aPi s (24 * n + i) - aPi s (24 * p + j)).natAbs % 7))), (10, .int (nI (Bool.toNat (mt1 s n p y yP 0 i j)))), (9, .int (nI (j))), (8, .int (nI (i))), (7, .int (nI (mtI s n p y yP 1 (aSz s p) i + mtJ s n p y yP 1 i j))), (4, .int (nI (q))), (0, .ref (o)), (1, .int (nI (n))), (2, .int (nI (p))), (3, .int (nI (w)))]) dX12_meet_319 (by decide) rfl ?_
                            refine mm_iload dX12_meet_321 2 rfl ?_
                            refine mn_ifB_eq (tgt := 356) dX12_meet_323 (by decide) (fun c323 => ?_) (fun c323 => ?_)
                            · refine mm_iload dX12_meet_356 5 rfl ?_
                              refine mm_istore (L' := [(7, .int (nI (mtI s n p y yP 1 (aSz s p) i + mtJ s n p y yP 1 i j))), (6, .int (nI (mtI s n p y yP 0 (aSz s p) i + mtJ s n p y yP 0 i j))), (11, .int (nI ((aPi s (24 * n + i) - aPi s (24 * p + j)).natAbs % 7))), (10, .int (nI (Bool.toNat (mt1 s n p y yP 0 i j)))), (9, .int (nI (j))), (8, .int (nI (i))), (4, .int (nI (q))), (0, .ref (o)), (1, .int (nI (n))), (2, .int (nI (p))), (3, .int (nI (w)))]) dX12_meet_358 (by decide) rfl ?_
                              refine mn_iinc (m := 1) (L' := [(9, .int (nI (j + 1))), (7, .int (nI (mtI s n p y yP 1 (aSz s p) i + mtJ s n p y yP 1 i j))), (6, .int (nI (mtI s n p y yP 0 (aSz s p) i + mtJ s n p y yP 0 i j))), (11, .int (nI ((aPi s (24 * n + i) - aPi s (24 * p + j)).natAbs % 7))), (10, .int (nI (Bool.toNat (mt1 s n p y yP 0 i j)))), (8, .int (nI (i))), (4, .int (nI (q))), (0, .ref (o)), (1, .int (nI (n))), (2, .int (nI (p))), (3, .int (nI (w)))]) dX12_meet_360 (by decide) 4 rfl (by decide) rfl ?_
                              refine mm_goto (tgt := 180) dX12_meet_363 (by decide) ?_
                              refine mn_sub [0, 5, 1, 2, 6, 7, 8, 9, 10] rfl ?_
                              have ih2 := ih2 (j + 1) (by omega)
                              rw [st0, st1] at ih2
                              exact ih2
                            · rw [c307] at c323; cases c323
                          · rw [c307] at st0
                            refine mm_iload dX12_meet_310 5 rfl ?_
                            refine mm_iconst (v := nI 1) dX12_meet_312 (by decide) ?_
                            refine mn_iadd dX12_meet_313 ?_
                            refine mm_goto (tgt := 319) dX12_meet_314 (by decide) ?_
                            refine mm_istore (L' := [(6, .int (nI ((mtI s n p y yP 0 (aSz s p) i + mtJ s n p y yP 0 i j) + (1)))), (11, .int (nI ((aPi s (24 * n + i) - aPi s (24 * p + j)).natAbs % 7))), (10, .int (nI (Bool.toNat (mt1 s n p y yP 0 i j)))), (9, .int (nI (j))), (8, .int (nI (i))), (7, .int (nI (mtI s n p y yP 1 (aSz s p) i + mtJ s n p y yP 1 i j))), (4, .int (nI (q))), (0, .ref (o)), (1, .int (nI (n))), (2, .int (nI (p))), (3, .int (nI (w)))]) dX12_meet_319 (by decide) rfl ?_
                            refine mm_iload dX12_meet_321 2 rfl ?_
                            refine mn_ifB_eq (tgt := 356) dX12_meet_323 (by decide) (fun c323 => ?_) (fun c323 => ?_)
                            · rw [c307] at c323; cases c323
                            · refine mm_iload dX12_meet_326 1 rfl ?_
                              refine mn_if_eq (tgt := 349) dX12_meet_328 (by decide) (by omega) (fun c328 => ?_) (fun c328 => ?_)
                              · refine mm_iload dX12_meet_349 5 rfl ?_
                                refine mm_iconst (v := nI 1) dX12_meet_351 (by decide) ?_
                                refine mn_iadd dX12_meet_352 ?_
                                refine mm_goto (tgt := 358) dX12_meet_353 (by decide) ?_
                                refine mm_istore (L' := [(7, .int (nI ((mtI s n p y yP 1 (aSz s p) i + mtJ s n p y yP 1 i j) + (1)))), (6, .int (nI ((mtI s n p y yP 0 (aSz s p) i + mtJ s n p y yP 0 i j) + (1)))), (11, .int (nI ((aPi s (24 * n + i) - aPi s (24 * p + j)).natAbs % 7))), (10, .int (nI (Bool.toNat (mt1 s n p y yP 0 i j)))), (9, .int (nI (j))), (8, .int (nI (i))), (4, .int (nI (q))), (0, .ref (o)), (1, .int (nI (n))), (2, .int (nI (p))), (3, .int (nI (w)))]) dX12_meet_358 (by decide) rfl ?_
                                refine mn_iinc (m := 1) (L' := [(9, .int (nI (j + 1))), (7, .int (nI ((mtI s n p y yP 1 (aSz s p) i + mtJ s n p y yP 1 i j) + (1)))), (6, .int (nI ((mtI s n p y yP 0 (aSz s p) i + mtJ s n p y yP 0 i j) + (1)))), (11, .int (nI ((aPi s (24 * n + i) - aPi s (24 * p + j)).natAbs % 7))), (10, .int (nI (Bool.toNat (mt1 s n p y yP 0 i j)))), (8, .int (nI (i))), (4, .int (nI (q))), (0, .ref (o)), (1, .int (nI (n))), (2, .int (nI (p))), (3, .int (nI (w)))]) dX12_meet_360 (by decide) 4 rfl (by decide) rfl ?_
                                refine mm_goto (tgt := 180) dX12_meet_363 (by decide) ?_
                                have s1 : mt1 s n p y yP 1 i j = true := by rw [mt_1, c307, sw_t (by omega)]; rfl
                                rw [s1] at st1
                                refine mn_sub [0, 5, 1, 2, 6, 7, 8, 9, 10] rfl ?_
                                have ih2 := ih2 (j + 1) (by omega)
                                rw [st0, st1] at ih2
                                exact ih2
                              · refine mm_iload dX12_meet_331 1 rfl ?_
                                refine mm_iconst (v := nI 2) dX12_meet_333 (by decide) ?_
                                refine mn_icmp_eq (tgt := 349) dX12_meet_334 (by decide) (by omega) (by omega) (fun c334 => ?_) (fun c334 => ?_)
                                · refine mm_iload dX12_meet_349 5 rfl ?_
                                  refine mm_iconst (v := nI 1) dX12_meet_351 (by decide) ?_
                                  refine mn_iadd dX12_meet_352 ?_
                                  refine mm_goto (tgt := 358) dX12_meet_353 (by decide) ?_
                                  refine mm_istore (L' := [(7, .int (nI ((mtI s n p y yP 1 (aSz s p) i + mtJ s n p y yP 1 i j) + (1)))), (6, .int (nI ((mtI s n p y yP 0 (aSz s p) i + mtJ s n p y yP 0 i j) + (1)))), (11, .int (nI ((aPi s (24 * n + i) - aPi s (24 * p + j)).natAbs % 7))), (10, .int (nI (Bool.toNat (mt1 s n p y yP 0 i j)))), (9, .int (nI (j))), (8, .int (nI (i))), (4, .int (nI (q))), (0, .ref (o)), (1, .int (nI (n))), (2, .int (nI (p))), (3, .int (nI (w)))]) dX12_meet_358 (by decide) rfl ?_
                                  refine mn_iinc (m := 1) (L' := [(9, .int (nI (j + 1))), (7, .int (nI ((mtI s n p y yP 1 (aSz s p) i + mtJ s n p y yP 1 i j) + (1)))), (6, .int (nI ((mtI s n p y yP 0 (aSz s p) i + mtJ s n p y yP 0 i j) + (1)))), (11, .int (nI ((aPi s (24 * n + i) - aPi s (24 * p + j)).natAbs % 7))), (10, .int (nI (Bool.toNat (mt1 s n p y yP 0 i j)))), (8, .int (nI (i))), (4, .int (nI (q))), (0, .ref (o)), (1, .int (nI (n))), (2, .int (nI (p))), (3, .int (nI (w)))]) dX12_meet_360 (by decide) 4 rfl (by decide) rfl ?_
                                  refine mm_goto (tgt := 180) dX12_meet_363 (by decide) ?_
                                  have s1 : mt1 s n p y yP 1 i j = true := by rw [mt_1, c307, sw_t (by omega)]; rfl
                                  rw [s1] at st1
                                  refine mn_sub [0, 5, 1, 2, 6, 7, 8, 9, 10] rfl ?_
                                  have ih2 := ih2 (j + 1) (by omega)
                                  rw [st0, st1] at ih2
                                  exact ih2
                                · refine mm_iload dX12_meet_337 1 rfl ?_
                                  refine mm_iconst (v := nI 4) dX12_meet_339 (by decide) ?_
                                  refine mn_icmp_eq (tgt := 349) dX12_meet_340 (by decide) (by omega) (by omega) (fun c340 => ?_) (fun c340 => ?_)
                                  · refine mm_iload dX12_meet_349 5 rfl ?_
                                    refine mm_iconst (v := nI 1) dX12_meet_351 (by decide) ?_
                                    refine mn_iadd dX12_meet_352 ?_
                                    refine mm_goto (tgt := 358) dX12_meet_353 (by decide) ?_
                                    refine mm_istore (L' := [(7, .int (nI ((mtI s n p y yP 1 (aSz s p) i + mtJ s n p y yP 1 i j) + (1)))), (6, .int (nI ((mtI s n p y yP 0 (aSz s p) i + mtJ s n p y yP 0 i j) + (1)))), (11, .int (nI ((aPi s (24 * n + i) - aPi s (24 * p + j)).natAbs % 7))), (10, .int (nI (Bool.toNat (mt1 s n p y yP 0 i j)))), (9, .int (nI (j))), (8, .int (nI (i))), (4, .int (nI (q))), (0, .ref (o)), (1, .int (nI (n))), (2, .int (nI (p))), (3, .int (nI (w)))]) dX12_meet_358 (by decide) rfl ?_
                                    refine mn_iinc (m := 1) (L' := [(9, .int (nI (j + 1))), (7, .int (nI ((mtI s n p y yP 1 (aSz s p) i + mtJ s n p y yP 1 i j) + (1)))), (6, .int (nI ((mtI s n p y yP 0 (aSz s p) i + mtJ s n p y yP 0 i j) + (1)))), (11, .int (nI ((aPi s (24 * n + i) - aPi s (24 * p + j)).natAbs % 7))), (10, .int (nI (Bool.toNat (mt1 s n p y yP 0 i j)))), (8, .int (nI (i))), (4, .int (nI (q))), (0, .ref (o)), (1, .int (nI (n))), (2, .int (nI (p))), (3, .int (nI (w)))]) dX12_meet_360 (by decide) 4 rfl (by decide) rfl ?_
                                    refine mm_goto (tgt := 180) dX12_meet_363 (by decide) ?_
                                    have s1 : mt1 s n p y yP 1 i j = true := by rw [mt_1, c307, sw_t (by omega)]; rfl
                                    rw [s1] at st1
                                    refine mn_sub [0, 5, 1, 2, 6, 7, 8, 9, 10] rfl ?_
                                    have ih2 := ih2 (j + 1) (by omega)
                                    rw [st0, st1] at ih2
                                    exact ih2
                                  · refine mm_iload dX12_meet_343 1 rfl ?_
                                    refine mm_iconst (v := nI 5) dX12_meet_345 (by decide) ?_
                                    refine mn_icmp_ne (tgt := 356) dX12_meet_346 (by decide) (by omega) (by omega) (fun c346 => ?_) (fun c346 => ?_)
                                    · refine mm_iload dX12_meet_356 5 rfl ?_
                                      refine mm_istore (L' := [(7, .int (nI (mtI s n p y yP 1 (aSz s p) i + mtJ s n p y yP 1 i j))), (6, .int (nI ((mtI s n p y yP 0 (aSz s p) i + mtJ s n p y yP 0 i j) + (1)))), (11, .int (nI ((aPi s (24 * n + i) - aPi s (24 * p + j)).natAbs % 7))), (10, .int (nI (Bool.toNat (mt1 s n p y yP 0 i j)))), (9, .int (nI (j))), (8, .int (nI (i))), (4, .int (nI (q))), (0, .ref (o)), (1, .int (nI (n))), (2, .int (nI (p))), (3, .int (nI (w)))]) dX12_meet_358 (by decide) rfl ?_
                                      refine mn_iinc (m := 1) (L' := [(9, .int (nI (j + 1))), (7, .int (nI (mtI s n p y yP 1 (aSz s p) i + mtJ s n p y yP 1 i j))), (6, .int (nI ((mtI s n p y yP 0 (aSz s p) i + mtJ s n p y yP 0 i j) + (1)))), (11, .int (nI ((aPi s (24 * n + i) - aPi s (24 * p + j)).natAbs % 7))), (10, .int (nI (Bool.toNat (mt1 s n p y yP 0 i j)))), (8, .int (nI (i))), (4, .int (nI (q))), (0, .ref (o)), (1, .int (nI (n))), (2, .int (nI (p))), (3, .int (nI (w)))]) dX12_meet_360 (by decide) 4 rfl (by decide) rfl ?_
                                      refine mm_goto (tgt := 180) dX12_meet_363 (by decide) ?_
                                      have s1 : mt1 s n p y yP 1 i j = false := by rw [mt_1, c307, sw_f (by omega)]; rfl
                                      rw [s1] at st1
                                      refine mn_sub [0, 5, 1, 2, 6, 7, 8, 9, 10] rfl ?_
                                      have ih2 := ih2 (j + 1) (by omega)
                                      rw [st0, st1] at ih2
                                      exact ih2
                                    · refine mm_iload dX12_meet_349 5 rfl ?_
                                      refine mm_iconst (v := nI 1) dX12_meet_351 (by decide) ?_
                                      refine mn_iadd dX12_meet_352 ?_
                                      refine mm_goto (tgt := 358) dX12_meet_353 (by decide) ?_
                                      refine mm_istore (L' := [(7, .int (nI ((mtI s n p y yP 1 (aSz s p) i + mtJ s n p y yP 1 i j) + (1)))), (6, .int (nI ((mtI s n p y yP 0 (aSz s p) i + mtJ s n p y yP 0 i j) + (1)))), (11, .int (nI ((aPi s (24 * n + i) - aPi s (24 * p + j)).natAbs % 7))), (10, .int (nI (Bool.toNat (mt1 s n p y yP 0 i j)))), (9, .int (nI (j))), (8, .int (nI (i))), (4, .int (nI (q))), (0, .ref (o)), (1, .int (nI (n))), (2, .int (nI (p))), (3, .int (nI (w)))]) dX12_meet_358 (by decide) rfl ?_
                                      refine mn_iinc (m := 1) (L' := [(9, .int (nI (j + 1))), (7, .int (nI ((mtI s n p y yP 1 (aSz s p) i + mtJ s n p y yP 1 i j) + (1)))), (6, .int (nI ((mtI s n p y yP 0 (aSz s p) i + mtJ s n p y yP 0 i j) + (1)))), (11, .int (nI ((aPi s (24 * n + i) - aPi s (24 * p + j)).natAbs % 7))), (10, .int (nI (Bool.toNat (mt1 s n p y yP 0 i j)))), (8, .int (nI (i))), (4, .int (nI (q))), (0, .ref (o)), (1, .int (nI (n))), (2, .int (nI (p))), (3, .int (nI (w)))]) dX12_meet_360 (by decide) 4 rfl (by decide) rfl ?_
                                      refine mm_goto (tgt := 180) dX12_meet_363 (by decide) ?_
                                      have s1 : mt1 s n p y yP 1 i j = true := by rw [mt_1, c307, sw_t (by omega)]; rfl
                                      rw [s1] at st1
                                      refine mn_sub [0, 5, 1, 2, 6, 7, 8, 9, 10] rfl ?_
                                      have ih2 := ih2 (j + 1) (by omega)
                                      rw [st0, st1] at ih2
                                      exact ih2
                        have j260 : mm_V (zz_K l D aa b0) 10 yX12_meet cX12_meet 12 (some .int) 260 [(10, .int (nI (Bool.toNat (mt1 s n p y yP 0 i j)))), (9, .int (nI (j))), (8, .int (nI (i))), (7, .int (nI (mtI s n p y yP 1 (aSz s p) i + mtJ s n p y yP 1 i j))), (6, .int (nI (mtI s n p y yP 0 (aSz s p) i + mtJ s n p y yP 0 i j))), (4, .int (nI (q))), (0, .ref (o)), (1, .int (nI (n))), (2, .int (nI (p))), (3, .int (nI (w)))] [] h1 0 0 (fun r h' => r = some (.int (nI (mtI s n p y yP w (aSz s p) (aSz s n)))) ∧ ∃ (F' : Nat → Int32) (G' : Nat → Int64) (A' : Nat → Nat → Int32) (B' : Nat → Nat → Int64), rm_at o F' G' A' B' h' ∧ rm_fr o h h' ∧ RI s F' A' B') := by
                          refine mm_aload_n dX12_meet_260 rfl 6 rfl ?_
                          refine rm_getA 8 dX12_meet_261 ha zf_pitchOf (by decide) rfl ?_
                          refine mm_bipush (v := nI 24) dX12_meet_264 (by decide) ?_
                          refine mm_iload_n dX12_meet_266 rfl 7 rfl ?_
                          refine mn_imul dX12_meet_267 ?_
                          refine mm_iload dX12_meet_268 2 rfl ?_
                          refine mn_iadd dX12_meet_270 ?_
                          refine rm_iald (k := 8) dX12_meet_271 ha rfl rfl rfl (show ((24) * (n)) + (i) < 144 from (by omega)) ?_
                          refine mn_top (u := .int (Int32.ofInt (aPi s (24 * n + i)))) (congrArg Value.int (a3)) ?_
                          refine mm_aload_n dX12_meet_272 rfl 6 rfl ?_
                          refine rm_getA 8 dX12_meet_273 ha zf_pitchOf (by decide) rfl ?_
                          refine mm_bipush (v := nI 24) dX12_meet_276 (by decide) ?_
                          refine mm_iload_n dX12_meet_278 rfl 8 rfl ?_
                          refine mn_imul dX12_meet_279 ?_
                          refine mm_iload dX12_meet_280 1 rfl ?_
                          refine mn_iadd dX12_meet_282 ?_
                          refine rm_iald (k := 8) dX12_meet_283 ha rfl rfl rfl (show ((24) * (p)) + (j) < 144 from (by omega)) ?_
                          refine mn_top (u := .int (Int32.ofInt (aPi s (24 * p + j)))) (congrArg Value.int (c3)) ?_
                          refine mm_isub dX12_meet_284 ?_
                          refine mn_top (u := .int (Int32.ofInt (aPi s (24 * n + i) - aPi s (24 * p + j)))) (congrArg Value.int ((Int32.ofInt_sub _ _).symm)) ?_
                          refine mm_istore (L' := [(11, .int (Int32.ofInt (aPi s (24 * n + i) - aPi s (24 * p + j)))), (10, .int (nI (Bool.toNat (mt1 s n p y yP 0 i j)))), (9, .int (nI (j))), (8, .int (nI (i))), (7, .int (nI (mtI s n p y yP 1 (aSz s p) i + mtJ s n p y yP 1 i j))), (6, .int (nI (mtI s n p y yP 0 (aSz s p) i + mtJ s n p y yP 0 i j))), (4, .int (nI (q))), (0, .ref (o)), (1, .int (nI (n))), (2, .int (nI (p))), (3, .int (nI (w)))]) dX12_meet_285 (by decide) rfl ?_
                          have hab := i32_ab2 (x := aPi s (24 * n + i) - aPi s (24 * p + j)) (by omega)
                          refine mm_iload dX12_meet_287 0 rfl ?_
                          refine mm_if_ge (tgt := 298) dX12_meet_289 (by decide) (fun c289 => ?_) (fun c289 => ?_)
                          · refine mm_iload dX12_meet_298 0 rfl ?_
                            refine mn_top (u := .int (nI ((aPi s (24 * n + i) - aPi s (24 * p + j)).natAbs))) (congrArg Value.int (hab.2 (Int32.not_lt.mpr c289))) ?_
                            refine mm_bipush (v := nI 7) dX12_meet_300 (by decide) ?_
                            refine mn_irem dX12_meet_302 (by omega) (by omega) (by omega) ?_
                            refine mm_istore (L' := [(11, .int (nI (((aPi s (24 * n + i) - aPi s (24 * p + j)).natAbs) % (7)))), (10, .int (nI (Bool.toNat (mt1 s n p y yP 0 i j)))), (9, .int (nI (j))), (8, .int (nI (i))), (7, .int (nI (mtI s n p y yP 1 (aSz s p) i + mtJ s n p y yP 1 i j))), (6, .int (nI (mtI s n p y yP 0 (aSz s p) i + mtJ s n p y yP 0 i j))), (4, .int (nI (q))), (0, .ref (o)), (1, .int (nI (n))), (2, .int (nI (p))), (3, .int (nI (w)))]) dX12_meet_303 (by decide) rfl ?_
                            refine mn_sub [0, 1, 2, 3, 4, 5, 6, 7, 8, 9, 10] rfl ?_
                            exact j305
                          · refine mm_iload dX12_meet_292 0 rfl ?_
                            refine mm_ineg dX12_meet_294 ?_
                            refine mm_goto (tgt := 300) dX12_meet_295 (by decide) ?_
                            refine mn_top (u := .int (nI ((aPi s (24 * n + i) - aPi s (24 * p + j)).natAbs))) (congrArg Value.int (hab.1 (Int32.not_le.mp c289))) ?_
                            refine mm_bipush (v := nI 7) dX12_meet_300 (by decide) ?_
                            refine mn_irem dX12_meet_302 (by omega) (by omega) (by omega) ?_
                            refine mm_istore (L' := [(11, .int (nI (((aPi s (24 * n + i) - aPi s (24 * p + j)).natAbs) % (7)))), (10, .int (nI (Bool.toNat (mt1 s n p y yP 0 i j)))), (9, .int (nI (j))), (8, .int (nI (i))), (7, .int (nI (mtI s n p y yP 1 (aSz s p) i + mtJ s n p y yP 1 i j))), (6, .int (nI (mtI s n p y yP 0 (aSz s p) i + mtJ s n p y yP 0 i j))), (4, .int (nI (q))), (0, .ref (o)), (1, .int (nI (n))), (2, .int (nI (p))), (3, .int (nI (w)))]) dX12_meet_303 (by decide) rfl ?_
                            refine mn_sub [0, 1, 2, 3, 4, 5, 6, 7, 8, 9, 10] rfl ?_
                            exact j305
                        refine mm_aload_n dX12_meet_191 rfl 5 rfl ?_
                        refine rm_getA 6 dX12_meet_192 ha zf_sortOf (by decide) rfl ?_
                        refine mm_bipush (v := nI 24) dX12_meet_195 (by decide) ?_
                        refine mm_iload_n dX12_meet_197 rfl 6 rfl ?_
                        refine mn_imul dX12_meet_198 ?_
                        refine mm_iload dX12_meet_199 1 rfl ?_
                        refine mn_iadd dX12_meet_201 ?_
                        refine rm_iald (k := 6) dX12_meet_202 ha rfl rfl rfl (show ((24) * (n)) + (i) < 144 from (by omega)) ?_
                        refine mn_top (u := .int (nI (aSo s (24 * n + i)))) (congrArg Value.int (a1)) ?_
                        refine mm_iconst (v := nI 1) dX12_meet_203 (by decide) ?_
                        refine mn_icmp_ne (tgt := 257) dX12_meet_204 (by decide) (by omega) (by omega) (fun c204 => ?_) (fun c204 => ?_)
                        · refine mm_iconst (v := nI 0) dX12_meet_257 (by decide) ?_
                          refine mn_top (u := .int (nI (Bool.toNat (mt1 s n p y yP 0 i j)))) (congrArg Value.int (by rw [mt_0, decide_eq_false (show ¬ aSo s (24 * n + i) = 1 by omega)]; rfl)) ?_
                          refine mm_istore (L' := [(10, .int (nI (Bool.toNat (mt1 s n p y yP 0 i j)))), (9, .int (nI (j))), (8, .int (nI (i))), (7, .int (nI (mtI s n p y yP 1 (aSz s p) i + mtJ s n p y yP 1 i j))), (6, .int (nI (mtI s n p y yP 0 (aSz s p) i + mtJ s n p y yP 0 i j))), (4, .int (nI (q))), (0, .ref (o)), (1, .int (nI (n))), (2, .int (nI (p))), (3, .int (nI (w)))]) dX12_meet_258 (by decide) rfl ?_
                          refine mn_sub [0, 1, 2, 3, 4, 5, 6, 7, 8, 9] rfl ?_
                          exact j260
                        · refine mm_aload_n dX12_meet_207 rfl 5 rfl ?_
                          refine rm_getA 6 dX12_meet_208 ha zf_sortOf (by decide) rfl ?_
                          refine mm_bipush (v := nI 24) dX12_meet_211 (by decide) ?_
                          refine mm_iload_n dX12_meet_213 rfl 7 rfl ?_
                          refine mn_imul dX12_meet_214 ?_
                          refine mm_iload dX12_meet_215 0 rfl ?_
                          refine mn_iadd dX12_meet_217 ?_
                          refine rm_iald (k := 6) dX12_meet_218 ha rfl rfl rfl (show ((24) * (p)) + (j) < 144 from (by omega)) ?_
                          refine mn_top (u := .int (nI (aSo s (24 * p + j)))) (congrArg Value.int (c1)) ?_
                          refine mm_iconst (v := nI 1) dX12_meet_219 (by decide) ?_
                          refine mn_icmp_ne (tgt := 257) dX12_meet_220 (by decide) (by omega) (by omega) (fun c220 => ?_) (fun c220 => ?_)
                          · refine mm_iconst (v := nI 0) dX12_meet_257 (by decide) ?_
                            refine mn_top (u := .int (nI (Bool.toNat (mt1 s n p y yP 0 i j)))) (congrArg Value.int (by rw [mt_0, decide_eq_false (show ¬ aSo s (24 * p + j) = 1 by omega), Bool.false_and, Bool.and_false]; rfl)) ?_
                            refine mm_istore (L' := [(10, .int (nI (Bool.toNat (mt1 s n p y yP 0 i j)))), (9, .int (nI (j))), (8, .int (nI (i))), (7, .int (nI (mtI s n p y yP 1 (aSz s p) i + mtJ s n p y yP 1 i j))), (6, .int (nI (mtI s n p y yP 0 (aSz s p) i + mtJ s n p y yP 0 i j))), (4, .int (nI (q))), (0, .ref (o)), (1, .int (nI (n))), (2, .int (nI (p))), (3, .int (nI (w)))]) dX12_meet_258 (by decide) rfl ?_
                            refine mn_sub [0, 1, 2, 3, 4, 5, 6, 7, 8, 9] rfl ?_
                            exact j260
                          · refine mm_aload_n dX12_meet_223 rfl 5 rfl ?_
                            refine rm_getL 44 dX12_meet_224 ha zf_above (by decide) rfl rfl ?_
                            refine mn_top (u := .long (lN ((aT s n y i).1))) (congrArg Value.long (h44)) ?_
                            refine mm_aload_n dX12_meet_227 rfl 5 rfl ?_
                            refine rm_getA 46 dX12_meet_228 ha zf_beginAbove (by decide) rfl ?_
                            refine mm_iload dX12_meet_231 0 rfl ?_
                            refine rm_lald (k := 46) dX12_meet_233 ha rfl rfl rfl (show j < 24 from (by omega)) ?_
                            refine mn_top (u := .long (lN ((aT s p yP j).1))) (congrArg Value.long (g1)) ?_
                            refine mn_lc_ne (tgt := 257) dX12_meet_234 dX12_meet_235 (by decide) (by omega) (by omega) (fun c234 => ?_) (fun c234 => ?_)
                            · refine mm_iconst (v := nI 0) dX12_meet_257 (by decide) ?_
                              refine mn_top (u := .int (nI (Bool.toNat (mt1 s n p y yP 0 i j)))) (congrArg Value.int (by rw [mt_0, decide_eq_false (fun e : aT s n y i = aT s p yP j => c234 (by rw [e])), Bool.and_false, Bool.and_false]; rfl)) ?_
                              refine mm_istore (L' := [(10, .int (nI (Bool.toNat (mt1 s n p y yP 0 i j)))), (9, .int (nI (j))), (8, .int (nI (i))), (7, .int (nI (mtI s n p y yP 1 (aSz s p) i + mtJ s n p y yP 1 i j))), (6, .int (nI (mtI s n p y yP 0 (aSz s p) i + mtJ s n p y yP 0 i j))), (4, .int (nI (q))), (0, .ref (o)), (1, .int (nI (n))), (2, .int (nI (p))), (3, .int (nI (w)))]) dX12_meet_258 (by decide) rfl ?_
                              refine mn_sub [0, 1, 2, 3, 4, 5, 6, 7, 8, 9] rfl ?_
                              exact j260
                            · refine mm_aload_n dX12_meet_238 rfl 5 rfl ?_
                              refine rm_getL 45 dX12_meet_239 ha zf_below (by decide) rfl rfl ?_
                              refine mn_top (u := .long (lN ((aT s n y i).2))) (congrArg Value.long (h45)) ?_
                              refine mm_aload_n dX12_meet_242 rfl 5 rfl ?_
                              refine rm_getA 47 dX12_meet_243 ha zf_beginBelow (by decide) rfl ?_
                              refine mm_iload dX12_meet_246 0 rfl ?_
                              refine rm_lald (k := 47) dX12_meet_248 ha rfl rfl rfl (show j < 24 from (by omega)) ?_
                              refine mn_top (u := .long (lN ((aT s p yP j).2))) (congrArg Value.long (g2)) ?_
                              refine mn_lc_ne (tgt := 257) dX12_meet_249 dX12_meet_250 (by decide) (by omega) (by omega) (fun c249 => ?_) (fun c249 => ?_)
                              · refine mm_iconst (v := nI 0) dX12_meet_257 (by decide) ?_
                                refine mn_top (u := .int (nI (Bool.toNat (mt1 s n p y yP 0 i j)))) (congrArg Value.int (by rw [mt_0, decide_eq_false (fun e : aT s n y i = aT s p yP j => c249 (by rw [e])), Bool.and_false, Bool.and_false]; rfl)) ?_
                                refine mm_istore (L' := [(10, .int (nI (Bool.toNat (mt1 s n p y yP 0 i j)))), (9, .int (nI (j))), (8, .int (nI (i))), (7, .int (nI (mtI s n p y yP 1 (aSz s p) i + mtJ s n p y yP 1 i j))), (6, .int (nI (mtI s n p y yP 0 (aSz s p) i + mtJ s n p y yP 0 i j))), (4, .int (nI (q))), (0, .ref (o)), (1, .int (nI (n))), (2, .int (nI (p))), (3, .int (nI (w)))]) dX12_meet_258 (by decide) rfl ?_
                                refine mn_sub [0, 1, 2, 3, 4, 5, 6, 7, 8, 9] rfl ?_
                                exact j260
                              · refine mm_iconst (v := nI 1) dX12_meet_253 (by decide) ?_
                                refine mm_goto (tgt := 258) dX12_meet_254 (by decide) ?_
                                refine mn_top (u := .int (nI (Bool.toNat (mt1 s n p y yP 0 i j)))) (congrArg Value.int (by rw [mt_0, decide_eq_true (show aSo s (24 * n + i) = 1 by omega), decide_eq_true (show aSo s (24 * p + j) = 1 by omega), decide_eq_true (show aT s n y i = aT s p yP j from Prod.ext (by omega) (by omega))]; rfl)) ?_
                                refine mm_istore (L' := [(10, .int (nI (Bool.toNat (mt1 s n p y yP 0 i j)))), (9, .int (nI (j))), (8, .int (nI (i))), (7, .int (nI (mtI s n p y yP 1 (aSz s p) i + mtJ s n p y yP 1 i j))), (6, .int (nI (mtI s n p y yP 0 (aSz s p) i + mtJ s n p y yP 0 i j))), (4, .int (nI (q))), (0, .ref (o)), (1, .int (nI (n))), (2, .int (nI (p))), (3, .int (nI (w)))]) dX12_meet_258 (by decide) rfl ?_
                                refine mn_sub [0, 1, 2, 3, 4, 5, 6, 7, 8, 9] rfl ?_
                                exact j260
              · omega
            | succ c ih =>
              intro j G1 B1 h2 hjc hbv hI3 ha hf
              refine mm_iload dX12_meet_87 0 rfl ?_
              refine mm_aload_n dX12_meet_89 rfl 2 rfl ?_
              refine rm_getA 2 dX12_meet_90 ha zf_sizeOf (by decide) rfl ?_
              refine mm_iload_n dX12_meet_93 rfl 4 rfl ?_
              refine rm_iald (k := 2) dX12_meet_94 ha rfl rfl rfl (show p < 6 from (by omega)) ?_
              refine mn_top (u := .int (nI (aSz s p))) (congrArg Value.int (sP)) ?_
              refine mn_icmp_ge (tgt := 135) dX12_meet_95 (by decide) (by omega) (by omega) (fun c95 => ?_) (fun c95 => ?_)
              · omega
              · have b2 := a_tb hW hn6P hyP (i := j) (by omega)
                refine mm_aload_n dX12_meet_98 rfl 2 rfl ?_
                refine mm_iload_n dX12_meet_99 rfl 4 rfl ?_
                refine mm_iload dX12_meet_100 1 rfl ?_
                refine mm_iload dX12_meet_102 0 rfl ?_
                refine rm_callV (As := [.int (nI (p)), .int (nI (qP)), .int (nI (j))]) (rest := []) (d2 := 2) dX12_meet_104 ha zc_findTime zc_findTime_s rfl rfl rfl (Nat.le_of_ble_eq_true rfl) (Nat.le_of_ble_eq_true rfl) (by decide) (tM_findTime (m := j) (V := aV yP) (ua := fun i => aUa s (24 * p + i)) (da := fun i => aDa s (24 * p + i)) ha hn6P hqP (by omega) (fun i hi => hvlP i (by omega)) (fun i hi => (hsy2 (24 * p + i) (by omega)).2.2.2.2.2.1) (fun i hi => (hsy2 (24 * p + i) (by omega)).2.2.2.2.1.1) (fun i hi => a_sz hW hn6P hyP i (by omega)) (fun i hi => a_u1 hW hn6P i (by omega))) (fun r h1 hq => ?_)
                obtain ⟨rfl, G2, ha, hf', h44, h45⟩ := hq
                have hf := hf.tr hf'
                refine mm_aload_n dX12_meet_107 rfl 2 rfl ?_
                refine rm_getA 46 dX12_meet_108 ha zf_beginAbove (by decide) rfl ?_
                refine mm_iload dX12_meet_111 0 rfl ?_
                refine mm_aload_n dX12_meet_113 rfl 2 rfl ?_
                refine rm_getL 44 dX12_meet_114 ha zf_above (by decide) rfl rfl ?_
                refine mn_top (u := .long (lN ((aT s p yP (j)).1))) (congrArg Value.long (h44)) ?_
                refine rm_last (k := 46) dX12_meet_117 ha hf rfl rfl rfl (show j < 24 from (by omega)) (fun h1 ha hf => ?_)
                refine mm_aload_n dX12_meet_118 rfl 2 rfl ?_
                refine rm_getA 47 dX12_meet_119 ha zf_beginBelow (by decide) rfl ?_
                refine mm_iload dX12_meet_122 0 rfl ?_
                refine mm_aload_n dX12_meet_124 rfl 2 rfl ?_
                refine rm_getL 45 dX12_meet_125 ha zf_below (by decide) rfl rfl ?_
                refine mn_top (u := .long (lN ((aT s p yP (j)).2))) (congrArg Value.long (h45)) ?_
                refine rm_last (k := 47) dX12_meet_128 ha hf rfl rfl rfl (show j < 24 from (by omega)) (fun h1 ha hf => ?_)
                refine mn_iinc (m := 1) (L' := [(6, .int (nI (j + 1))), (5, .int (nI (qP))), (0, .ref (o)), (1, .int (nI (n))), (2, .int (nI (p))), (3, .int (nI (w)))]) dX12_meet_129 (by decide) 0 rfl (by decide) rfl ?_
                refine mm_goto (tgt := 87) dX12_meet_132 (by decide) ?_
                refine mn_sub [0, 1, 2, 3, 4, 5] rfl ?_
                refine ih (j + 1) _ (rm_up (rm_up B1 46 (vp_updL (B1 46) (j) (lN ((aT s p yP (j)).1)))) 47 (vp_updL ((rm_up B1 46 (vp_updL (B1 46) (j) (lN ((aT s p yP (j)).1)))) 47) (j) (lN ((aT s p yP (j)).2)))) _ (by omega) (fun i hi => ?_) (RI_sc hI3 (fun _ _ _ _ => rfl) (fun _ _ => rfl) (fun i => by rw [rm_up_n (by decide), rm_up_n (by decide)])) ha hf
                rw [rm_up_n (show 46 ≠ 47 by decide), rm_up_s, rm_up_s, rm_up_n (show 47 ≠ 46 by decide)]
                by_cases e : i = j
                · rw [e, vp_updL_s, vp_updL_s]; exact ⟨rfl, rfl⟩
                · rw [vp_updL_n e, vp_updL_n e]; exact hbv i (by omega)
          · exact absurd c66 (nI_n4 (by omega))
      · cases c23
