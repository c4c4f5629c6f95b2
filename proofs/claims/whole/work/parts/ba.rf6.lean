/-! the reference: times -/
set_option maxRecDepth 100000 in
set_option maxHeartbeats 4000000 in
theorem tM_addTime {l : Launch} {D : va_G} {aa : Nat → ClassId} {b0 : Nat} {h : mm_H} {o : Nat} {F : Nat → Int32} {G : Nat → Int64} {A : Nat → Nat → Int32} {B : Nat → Nat → Int64} {p q S Bd : Nat} {t : Nat × Nat} (ha : rm_at o F G A B h) (htk : tmk_ S t) (hq : 0 < q) (hqd : q ∣ LL_) (hp : p ≤ Bd * q) (hSB : S + Bd ≤ 100000000) (h44 : G 44 = lN t.1) (h45 : G 45 = lN t.2) : mm_V (zz_K l D aa b0) 1 yX12_addTime cX12_addTime 13 none 0 [(0, .ref (o)), (1, .long (lN (p))), (3, .long (lN (q)))] [] h 0 0 (fun r h' => r = none ∧ rm_at o F (vp_updL (vp_updL G 44 (lN (tAd t p q).1)) 45 (lN (tAd t p q).2)) A B h' ∧ rm_fr o h h') := by
  have hf : rm_fr o h h := rm_fr.rf
  have hb := tmk_b htk (by omega)
  have hql := LL_le hqd
  have ht0 := htk.1
  obtain ⟨x1, x2, x3⟩ := tmk_x htk hq hqd hp
  have xe := tAd_lcm (p := p) ht0 hq
  have x4 := LL_le x2
  have hg1 : 0 < Nat.gcd t.2 q := Nat.gcd_pos_of_pos_right _ hq
  have hgq : Nat.gcd t.2 q ≤ q := Nat.gcd_le_right _ hq
  have x5 : (S + Bd) * (t.2 / Nat.gcd t.2 q * q) ≤ 100000000 * 80015040000 := Nat.mul_le_mul hSB x4
  have hG1 : 0 < Nat.gcd (t.1 * (q / Nat.gcd t.2 q) + p * (t.2 / Nat.gcd t.2 q)) (t.2 / Nat.gcd t.2 q * q) := Nat.gcd_pos_of_pos_right _ x3
  have hG2 : Nat.gcd (t.1 * (q / Nat.gcd t.2 q) + p * (t.2 / Nat.gcd t.2 q)) (t.2 / Nat.gcd t.2 q * q) ≤ (t.2 / Nat.gcd t.2 q * q) := Nat.gcd_le_right _ x3
  refine mm_aload_n dX12_addTime_0 rfl 0 rfl ?_
  refine rm_getL 45 dX12_addTime_1 ha zf_below (by decide) rfl rfl ?_
  refine mn_top (u := .long (lN (t.2))) (congrArg Value.long (h45)) ?_
  refine mm_lload_n dX12_addTime_4 rfl 2 rfl ?_
  refine rm_callSr (As := [.long (lN (t.2)), .long (lN (q))]) (rest := []) (d2 := 0) dX12_addTime_5 zc_divisor rfl rfl (Nat.le_of_ble_eq_true rfl) (Nat.le_of_ble_eq_true rfl) (by decide) (tm_divisor (by omega) (by omega)) ?_
  refine mm_lstore (L' := [(5, .long (lN (Nat.gcd t.2 q))), (0, .ref (o)), (1, .long (lN (p))), (3, .long (lN (q)))]) dX12_addTime_8 (by decide) rfl ?_
  refine mm_aload_n dX12_addTime_10 rfl 1 rfl ?_
  refine rm_getL 44 dX12_addTime_11 ha zf_above (by decide) rfl rfl ?_
  refine mn_top (u := .long (lN (t.1))) (congrArg Value.long (h44)) ?_
  refine mm_lload_n dX12_addTime_14 rfl 3 rfl ?_
  refine mm_lload dX12_addTime_15 0 rfl ?_
  refine mn_ldiv dX12_addTime_17 (by omega) (by omega) (by omega) ?_
  refine mn_lmul dX12_addTime_18 ?_
  refine mm_lload_n dX12_addTime_19 rfl 2 rfl ?_
  refine mm_aload_n dX12_addTime_20 rfl 1 rfl ?_
  refine rm_getL 45 dX12_addTime_21 ha zf_below (by decide) rfl rfl ?_
  refine mn_top (u := .long (lN (t.2))) (congrArg Value.long (h45)) ?_
  refine mm_lload dX12_addTime_24 0 rfl ?_
  refine mn_ldiv dX12_addTime_26 (by omega) (by omega) (by omega) ?_
  refine mn_lmul dX12_addTime_27 ?_
  refine mn_ladd dX12_addTime_28 ?_
  refine mn_top (u := .long (lN (t.1 * (q / Nat.gcd t.2 q) + p * (t.2 / Nat.gcd t.2 q)))) (congrArg Value.long (rfl)) ?_
  refine mm_lstore (L' := [(7, .long (lN (t.1 * (q / Nat.gcd t.2 q) + p * (t.2 / Nat.gcd t.2 q)))), (5, .long (lN (Nat.gcd t.2 q))), (0, .ref (o)), (1, .long (lN (p))), (3, .long (lN (q)))]) dX12_addTime_29 (by decide) rfl ?_
  refine mm_aload_n dX12_addTime_31 rfl 2 rfl ?_
  refine rm_getL 45 dX12_addTime_32 ha zf_below (by decide) rfl rfl ?_
  refine mn_top (u := .long (lN (t.2))) (congrArg Value.long (h45)) ?_
  refine mm_lload dX12_addTime_35 1 rfl ?_
  refine mn_ldiv dX12_addTime_37 (by omega) (by omega) (by omega) ?_
  refine mm_lload_n dX12_addTime_38 rfl 4 rfl ?_
  refine mn_lmul dX12_addTime_39 ?_
  refine mn_top (u := .long (lN (t.2 / Nat.gcd t.2 q * q))) (congrArg Value.long (rfl)) ?_
  refine mm_lstore (L' := [(9, .long (lN (t.2 / Nat.gcd t.2 q * q))), (7, .long (lN (t.1 * (q / Nat.gcd t.2 q) + p * (t.2 / Nat.gcd t.2 q)))), (5, .long (lN (Nat.gcd t.2 q))), (0, .ref (o)), (1, .long (lN (p))), (3, .long (lN (q)))]) dX12_addTime_40 (by decide) rfl ?_
  refine mm_lload dX12_addTime_42 1 rfl ?_
  refine mm_lload dX12_addTime_44 0 rfl ?_
  refine rm_callSr (As := [.long (lN (t.1 * (q / Nat.gcd t.2 q) + p * (t.2 / Nat.gcd t.2 q))), .long (lN (t.2 / Nat.gcd t.2 q * q))]) (rest := []) (d2 := 0) dX12_addTime_46 zc_divisor rfl rfl (Nat.le_of_ble_eq_true rfl) (Nat.le_of_ble_eq_true rfl) (by decide) (tm_divisor (by omega) (by omega)) ?_
  have e1 : (t.1 * (q / Nat.gcd t.2 q) + p * (t.2 / Nat.gcd t.2 q)) / Nat.gcd (t.1 * (q / Nat.gcd t.2 q) + p * (t.2 / Nat.gcd t.2 q)) (t.2 / Nat.gcd t.2 q * q) = (tAd t p q).1 := congrArg Prod.fst xe
  have e2 : (t.2 / Nat.gcd t.2 q * q) / Nat.gcd (t.1 * (q / Nat.gcd t.2 q) + p * (t.2 / Nat.gcd t.2 q)) (t.2 / Nat.gcd t.2 q * q) = (tAd t p q).2 := congrArg Prod.snd xe
  refine mm_lstore (L' := [(11, .long (lN (Nat.gcd (t.1 * (q / Nat.gcd t.2 q) + p * (t.2 / Nat.gcd t.2 q)) (t.2 / Nat.gcd t.2 q * q)))), (9, .long (lN (t.2 / Nat.gcd t.2 q * q))), (7, .long (lN (t.1 * (q / Nat.gcd t.2 q) + p * (t.2 / Nat.gcd t.2 q)))), (5, .long (lN (Nat.gcd t.2 q))), (0, .ref (o)), (1, .long (lN (p))), (3, .long (lN (q)))]) dX12_addTime_49 (by decide) rfl ?_
  refine mm_aload_n dX12_addTime_51 rfl 4 rfl ?_
  refine mm_lload dX12_addTime_52 2 rfl ?_
  refine mm_lload dX12_addTime_54 0 rfl ?_
  refine mn_ldiv dX12_addTime_56 (by omega) (by omega) (by omega) ?_
  refine mn_top (u := .long (lN ((tAd t p q).1))) (congrArg Value.long (by rw [← e1])) ?_
  refine rm_putL 44 dX12_addTime_57 ha hf zf_above (by decide) rfl rfl rfl rfl (fun h ha hf => ?_)
  refine mm_aload_n dX12_addTime_60 rfl 4 rfl ?_
  refine mm_lload dX12_addTime_61 1 rfl ?_
  refine mm_lload dX12_addTime_63 0 rfl ?_
  refine mn_ldiv dX12_addTime_65 (by omega) (by omega) (by omega) ?_
  refine mn_top (u := .long (lN ((tAd t p q).2))) (congrArg Value.long (by rw [← e2])) ?_
  refine rm_putL 45 dX12_addTime_66 ha hf zf_below (by decide) rfl rfl rfl rfl (fun h ha hf => ?_)
  exact mm_vret dX12_addTime_69 rfl (⟨rfl, ha, hf⟩)
set_option maxRecDepth 100000 in
set_option maxHeartbeats 4000000 in
theorem tM_findTime {l : Launch} {D : va_G} {aa : Nat → ClassId} {b0 : Nat} {h : mm_H} {o : Nat} {F : Nat → Int32} {G : Nat → Int64} {A : Nat → Nat → Int32} {B : Nat → Nat → Int64} {n q m : Nat} {V ua da : Nat → Nat} (ha : rm_at o F G A B h) (hn6 : n < 6) (hq1 : q < 1000) (hm24 : m ≤ 24) (hv : ∀ i, i < m → A 38 (24 * q + i) = nI (V i)) (hd : ∀ i, i < m → A 11 (24 * n + i) = nI (da i)) (hu : ∀ i, i < m → A 10 (24 * n + i) = nI (ua i)) (hsz : sz_ V ua da m) (hu1000 : ∀ i, i < m → ua i ≤ 1000) : mm_V (zz_K l D aa b0) 2 yX12_findTime cX12_findTime 5 none 0 [(0, .ref (o)), (1, .int (nI (n))), (2, .int (nI (q))), (3, .int (nI (m)))] [] h 0 0 (fun r h' => r = none ∧ ∃ G' : Nat → Int64, rm_at o F G' A B h' ∧ rm_fr o h h' ∧ G' 44 = lN (tT (0, 1) V ua da m).1 ∧ G' 45 = lN (tT (0, 1) V ua da m).2) := by
  have hf : rm_fr o h h := rm_fr.rf
  have lp : ∀ (c j : Nat) (G1 : Nat → Int64) (h1 : mm_H), j + c = m → G1 44 = lN (tT (0, 1) V ua da j).1 → G1 45 = lN (tT (0, 1) V ua da j).2 → rm_at o F G1 A B h1 → rm_fr o h h1 → mm_V (zz_K l D aa b0) 2 yX12_findTime cX12_findTime 5 none 13 [(4, .int (nI (j))), (0, .ref (o)), (1, .int (nI (n))), (2, .int (nI (q))), (3, .int (nI (m)))] [] h1 0 0 (fun r h' => r = none ∧ ∃ G' : Nat → Int64, rm_at o F G' A B h' ∧ rm_fr o h h' ∧ G' 44 = lN (tT (0, 1) V ua da m).1 ∧ G' 45 = lN (tT (0, 1) V ua da m).2) := by
    intro c
    induction c with
    | zero =>
      intro j G1 h1 hj h44 h45 ha hf
      refine mm_iload dX12_findTime_13 0 rfl ?_
      refine mm_iload_n dX12_findTime_15 rfl 4 rfl ?_
      refine mn_icmp_ge (tgt := 69) dX12_findTime_16 (by decide) (by omega) (by omega) (fun c16 => ?_) (fun c16 => ?_)
      · have e : j = m := by omega
        subst e
        exact mm_vret dX12_findTime_69 rfl (⟨rfl, G1, ha, hf, h44, h45⟩)
      · omega
    | succ c ih =>
      intro j G1 h1 hj h44 h45 ha hf
      refine mm_iload dX12_findTime_13 0 rfl ?_
      refine mm_iload_n dX12_findTime_15 rfl 4 rfl ?_
      refine mn_icmp_ge (tgt := 69) dX12_findTime_16 (by decide) (by omega) (by omega) (fun c16 => ?_) (fun c16 => ?_)
      · omega
      · obtain ⟨hV, ⟨hu0, hud⟩, hda⟩ := hsz j (by omega)
        have hB := sz_B hsz (show j < m by omega)
        have hul := LL_le hud
        have hu1 := hu1000 j (by omega)
        have htk : tmk_ (0 + 972000 * j) (tT (0, 1) V ua da j) := tT_k tmk_0 hsz j (by omega)
        refine mm_aload_n dX12_findTime_19 rfl 1 rfl ?_
        refine mm_aload_n dX12_findTime_20 rfl 1 rfl ?_
        refine rm_getA 38 dX12_findTime_21 ha zf_values (by decide) rfl ?_
        refine mm_bipush (v := nI 24) dX12_findTime_24 (by decide) ?_
        refine mm_iload_n dX12_findTime_26 rfl 3 rfl ?_
        refine mn_imul dX12_findTime_27 ?_
        refine mm_iload dX12_findTime_28 0 rfl ?_
        refine mn_iadd dX12_findTime_30 ?_
        refine rm_iald (k := 38) dX12_findTime_31 ha rfl rfl rfl (show ((24) * (q)) + (j) < 24000 from (by omega)) ?_
        refine mn_top (u := .int (nI (V j))) (congrArg Value.int (hv j (by omega))) ?_
        refine mn_i2l dX12_findTime_32 (by omega) ?_
        refine mm_aload_n dX12_findTime_33 rfl 1 rfl ?_
        refine rm_getA 11 dX12_findTime_34 ha zf_downAt (by decide) rfl ?_
        refine mm_bipush (v := nI 24) dX12_findTime_37 (by decide) ?_
        refine mm_iload_n dX12_findTime_39 rfl 2 rfl ?_
        refine mn_imul dX12_findTime_40 ?_
        refine mm_iload dX12_findTime_41 0 rfl ?_
        refine mn_iadd dX12_findTime_43 ?_
        refine rm_iald (k := 11) dX12_findTime_44 ha rfl rfl rfl (show ((24) * (n)) + (j) < 144 from (by omega)) ?_
        refine mn_top (u := .int (nI (da j))) (congrArg Value.int (hd j (by omega))) ?_
        refine mn_i2l dX12_findTime_45 (by omega) ?_
        refine mn_lmul dX12_findTime_46 ?_
        refine mm_aload_n dX12_findTime_47 rfl 1 rfl ?_
        refine rm_getA 10 dX12_findTime_48 ha zf_upAt (by decide) rfl ?_
        refine mm_bipush (v := nI 24) dX12_findTime_51 (by decide) ?_
        refine mm_iload_n dX12_findTime_53 rfl 2 rfl ?_
        refine mn_imul dX12_findTime_54 ?_
        refine mm_iload dX12_findTime_55 0 rfl ?_
        refine mn_iadd dX12_findTime_57 ?_
        refine rm_iald (k := 10) dX12_findTime_58 ha rfl rfl rfl (show ((24) * (n)) + (j) < 144 from (by omega)) ?_
        refine mn_top (u := .int (nI (ua j))) (congrArg Value.int (hu j (by omega))) ?_
        refine mn_i2l dX12_findTime_59 (by omega) ?_
        refine rm_callV (As := [.long (lN ((V j) * (da j))), .long (lN (ua j))]) (rest := []) (d2 := 1) dX12_findTime_60 ha zc_addTime zc_addTime_s rfl rfl rfl (Nat.le_of_ble_eq_true rfl) (Nat.le_of_ble_eq_true rfl) (by decide) (tM_addTime (Bd := 972000) ha htk hu0 hud hB (by omega) h44 h45) (fun r h1 hq => ?_)
        obtain ⟨rfl, ha, hf'⟩ := hq
        have hf := hf.tr hf'
        refine mn_iinc (m := 1) (L' := [(4, .int (nI (j + 1))), (0, .ref (o)), (1, .int (nI (n))), (2, .int (nI (q))), (3, .int (nI (m)))]) dX12_findTime_63 (by decide) 0 rfl (by decide) rfl ?_
        refine mm_goto (tgt := 13) dX12_findTime_66 (by decide) ?_
        refine mn_sub [0, 1, 2, 3, 4] rfl ?_
        exact ih (j + 1) _ _ (by omega) ((vp_updL_n (by decide)).trans vp_updL_s) vp_updL_s ha hf
  refine mm_aload_n dX12_findTime_0 rfl 0 rfl ?_
  refine mm_lconst (v := lN 0) dX12_findTime_1 (by decide) ?_
  refine rm_putL 44 dX12_findTime_2 ha hf zf_above (by decide) rfl rfl rfl rfl (fun h ha hf => ?_)
  refine mm_aload_n dX12_findTime_5 rfl 0 rfl ?_
  refine mm_lconst (v := lN 1) dX12_findTime_6 (by decide) ?_
  refine rm_putL 45 dX12_findTime_7 ha hf zf_below (by decide) rfl rfl rfl rfl (fun h ha hf => ?_)
  refine mm_iconst (v := nI 0) dX12_findTime_10 (by decide) ?_
  refine mm_istore (L' := [(4, .int (nI (0))), (0, .ref (o)), (1, .int (nI (n))), (2, .int (nI (q))), (3, .int (nI (m)))]) dX12_findTime_11 (by decide) rfl ?_
  refine mn_sub [0, 1, 2, 3, 4] rfl ?_
  exact lp m 0 _ _ (by omega) ((vp_updL_n (by decide)).trans vp_updL_s) vp_updL_s ha hf
set_option maxRecDepth 100000 in
set_option maxHeartbeats 4000000 in
theorem tM_compare {l : Launch} {D : va_G} {aa : Nat → ClassId} {b0 : Nat} {h : mm_H} {p q r s : Nat} (hp : p < 2 ^ 63) (hq : q < 2 ^ 63) (hr : r < 2 ^ 63) (hs : s < 2 ^ 63) (hq0 : 0 < q) (hs0 : 0 < s) : mm_V (zz_K l D aa b0) 0 yX12_compare cX12_compare 27 (some .int) 0 [(0, .long (lN (p))), (2, .long (lN (q))), (4, .long (lN (r))), (6, .long (lN (s)))] [] h 0 0 (fun rv h' => h' = h ∧ rv = some (.int (Int32.ofInt (cm3 (p * s) (r * q))))) := by
  have lp : ∀ (n p1 q1 r1 s1 : Nat) (e : Int), p1 < 2 ^ 63 → q1 < 2 ^ 63 → r1 < 2 ^ 63 → s1 < 2 ^ 63 → 0 < q1 → 0 < s1 → gs n p1 q1 → e * cm3 (p1 * s1) (r1 * q1) = cm3 (p * s) (r * q) → mm_V (zz_K l D aa b0) 0 yX12_compare cX12_compare 27 (some .int) 23 [(18, .int (nI (0))), (17, .int (nI (1))), (16, .int (Int32.ofInt e)), (14, .long (lN (s1))), (12, .long (lN (r1))), (10, .long (lN (q1))), (8, .long (lN (p1))), (0, .long (lN (p))), (2, .long (lN (q))), (4, .long (lN (r))), (6, .long (lN (s)))] [] h 0 0 (fun rv h' => h' = h ∧ rv = some (.int (Int32.ofInt (cm3 (p * s) (r * q))))) := by
    intro n
    induction n with
    | zero =>
      intro p1 q1 r1 s1 e hp1 hq1 hr1 hs1 hq0 hs0 hg he
      have hg : q1 = 0 := hg
      omega
    | succ n ih =>
      intro p1 q1 r1 s1 e hp1 hq1 hr1 hs1 hq0 hs0 hg he
      have hd1 : p1 / q1 < 2 ^ 63 := Nat.lt_of_le_of_lt (Nat.div_le_self _ _) hp1
      have hd2 : r1 / s1 < 2 ^ 63 := Nat.lt_of_le_of_lt (Nat.div_le_self _ _) hr1
      have hm1 : p1 % q1 < q1 := Nat.mod_lt _ hq0
      have hm2 : r1 % s1 < s1 := Nat.mod_lt _ hs0
      refine mm_iload dX12_compare_23 1 rfl ?_
      refine mn_if_eq (tgt := 180) dX12_compare_25 (by decide) (by omega) (fun c25 => ?_) (fun c25 => ?_)
      · exact absurd c25 (by decide)
      · refine mm_lload dX12_compare_28 6 rfl ?_
        refine mm_lload dX12_compare_30 5 rfl ?_
        refine mn_ldiv dX12_compare_32 (by omega) (by omega) (by omega) ?_
        refine mm_lstore (L' := [(19, .long (lN ((p1) / (q1)))), (18, .int (nI (0))), (17, .int (nI (1))), (16, .int (Int32.ofInt e)), (14, .long (lN (s1))), (12, .long (lN (r1))), (10, .long (lN (q1))), (8, .long (lN (p1))), (0, .long (lN (p))), (2, .long (lN (q))), (4, .long (lN (r))), (6, .long (lN (s)))]) dX12_compare_33 (by decide) rfl ?_
        refine mm_lload dX12_compare_35 5 rfl ?_
        refine mm_lload dX12_compare_37 4 rfl ?_
        refine mn_ldiv dX12_compare_39 (by omega) (by omega) (by omega) ?_
        refine mm_lstore (L' := [(21, .long (lN ((r1) / (s1)))), (19, .long (lN ((p1) / (q1)))), (18, .int (nI (0))), (17, .int (nI (1))), (16, .int (Int32.ofInt e)), (14, .long (lN (s1))), (12, .long (lN (r1))), (10, .long (lN (q1))), (8, .long (lN (p1))), (0, .long (lN (p))), (2, .long (lN (q))), (4, .long (lN (r))), (6, .long (lN (s)))]) dX12_compare_40 (by decide) rfl ?_
        refine mm_lload dX12_compare_42 8 rfl ?_
        refine mm_lload dX12_compare_44 7 rfl ?_
        refine mn_lrem dX12_compare_46 (by omega) (by omega) (by omega) ?_
        refine mm_lstore (L' := [(23, .long (lN ((p1) % (q1)))), (21, .long (lN ((r1) / (s1)))), (19, .long (lN ((p1) / (q1)))), (18, .int (nI (0))), (17, .int (nI (1))), (16, .int (Int32.ofInt e)), (14, .long (lN (s1))), (12, .long (lN (r1))), (10, .long (lN (q1))), (8, .long (lN (p1))), (0, .long (lN (p))), (2, .long (lN (q))), (4, .long (lN (r))), (6, .long (lN (s)))]) dX12_compare_47 (by decide) rfl ?_
        refine mm_lload dX12_compare_49 7 rfl ?_
        refine mm_lload dX12_compare_51 6 rfl ?_
        refine mn_lrem dX12_compare_53 (by omega) (by omega) (by omega) ?_
        refine mm_lstore (L' := [(25, .long (lN ((r1) % (s1)))), (23, .long (lN ((p1) % (q1)))), (21, .long (lN ((r1) / (s1)))), (19, .long (lN ((p1) / (q1)))), (18, .int (nI (0))), (17, .int (nI (1))), (16, .int (Int32.ofInt e)), (14, .long (lN (s1))), (12, .long (lN (r1))), (10, .long (lN (q1))), (8, .long (lN (p1))), (0, .long (lN (p))), (2, .long (lN (q))), (4, .long (lN (r))), (6, .long (lN (s)))]) dX12_compare_54 (by decide) rfl ?_
        refine mm_lload dX12_compare_56 3 rfl ?_
        refine mm_lload dX12_compare_58 2 rfl ?_
        refine mn_lc_ne (tgt := 78) dX12_compare_60 dX12_compare_61 (by decide) (by omega) (by omega) (fun c60 => ?_) (fun c60 => ?_)
        · refine mm_lload dX12_compare_78 3 rfl ?_
          refine mm_lload dX12_compare_80 2 rfl ?_
          refine mn_lc_lt (tgt := 108) dX12_compare_82 dX12_compare_83 (by decide) (by omega) (by omega) (fun c82 => ?_) (fun c82 => ?_)
          · refine mm_iconst (v := (-1)) dX12_compare_108 (by decide) ?_
            refine mm_goto (tgt := 132) dX12_compare_109 (by decide) ?_
            refine mm_istore (L' := [(18, .int ((-1))), (25, .long (lN ((r1) % (s1)))), (23, .long (lN ((p1) % (q1)))), (21, .long (lN ((r1) / (s1)))), (19, .long (lN ((p1) / (q1)))), (17, .int (nI (1))), (16, .int (Int32.ofInt e)), (14, .long (lN (s1))), (12, .long (lN (r1))), (10, .long (lN (q1))), (8, .long (lN (p1))), (0, .long (lN (p))), (2, .long (lN (q))), (4, .long (lN (r))), (6, .long (lN (s)))]) dX12_compare_132 (by decide) rfl ?_
            refine mm_lload dX12_compare_134 4 rfl ?_
            refine mm_lload dX12_compare_136 3 rfl ?_
            refine mn_lc_le (tgt := 146) dX12_compare_138 dX12_compare_139 (by decide) (by omega) (by omega) (fun c138 => ?_) (fun c138 => ?_)
            · refine mm_iload dX12_compare_146 0 rfl ?_
              refine mm_istore (L' := [(18, .int ((-1))), (25, .long (lN ((r1) % (s1)))), (23, .long (lN ((p1) % (q1)))), (21, .long (lN ((r1) / (s1)))), (19, .long (lN ((p1) / (q1)))), (17, .int (nI (1))), (16, .int (Int32.ofInt e)), (14, .long (lN (s1))), (12, .long (lN (r1))), (10, .long (lN (q1))), (8, .long (lN (p1))), (0, .long (lN (p))), (2, .long (lN (q))), (4, .long (lN (r))), (6, .long (lN (s)))]) dX12_compare_148 (by decide) rfl ?_
              refine mm_iconst (v := nI 0) dX12_compare_150 (by decide) ?_
              refine mm_istore (L' := [(17, .int (nI (0))), (18, .int ((-1))), (25, .long (lN ((r1) % (s1)))), (23, .long (lN ((p1) % (q1)))), (21, .long (lN ((r1) / (s1)))), (19, .long (lN ((p1) / (q1)))), (16, .int (Int32.ofInt e)), (14, .long (lN (s1))), (12, .long (lN (r1))), (10, .long (lN (q1))), (8, .long (lN (p1))), (0, .long (lN (p))), (2, .long (lN (q))), (4, .long (lN (r))), (6, .long (lN (s)))]) dX12_compare_151 (by decide) rfl ?_
              refine mm_goto (tgt := 177) dX12_compare_153 (by decide) ?_
              refine mm_goto (tgt := 23) dX12_compare_177 (by decide) ?_
              refine mm_iload dX12_compare_23 0 rfl ?_
              refine mn_if_eq (tgt := 180) dX12_compare_25 (by decide) (by omega) (fun c25 => ?_) (fun c25 => ?_)
              · have ee : cm3 (p1 * s1) (r1 * q1) = -1 := by
                  by_cases hxy : p1 / q1 = r1 / s1
                  · rw [cmq_l hxy, cmq_0 hq0 hs0 (by omega)]; first | exact cm3_lt (by omega) | exact cm3_gt (by omega) | exact cm3_e (by omega)
                  · rw [cmq_w hq0 hs0 hxy]; first | exact cm3_lt (by omega) | exact cm3_gt (by omega) | exact cm3_e (by omega)
                refine mm_iload dX12_compare_180 6 rfl ?_
                refine mm_iload dX12_compare_182 1 rfl ?_
                refine mn_top (u := .int (Int32.ofInt (-1))) (congrArg Value.int (by decide)) ?_
                refine mm_imul dX12_compare_184 ?_
                exact mm_iret dX12_compare_185 rfl ⟨rfl, by rw [i32_mul, ← he, ee]⟩
              · exact absurd rfl c25
            · refine mm_iconst (v := nI 1) dX12_compare_142 (by decide) ?_
              refine mm_goto (tgt := 148) dX12_compare_143 (by decide) ?_
              refine mm_istore (L' := [(18, .int (nI (1))), (25, .long (lN ((r1) % (s1)))), (23, .long (lN ((p1) % (q1)))), (21, .long (lN ((r1) / (s1)))), (19, .long (lN ((p1) / (q1)))), (17, .int (nI (1))), (16, .int (Int32.ofInt e)), (14, .long (lN (s1))), (12, .long (lN (r1))), (10, .long (lN (q1))), (8, .long (lN (p1))), (0, .long (lN (p))), (2, .long (lN (q))), (4, .long (lN (r))), (6, .long (lN (s)))]) dX12_compare_148 (by decide) rfl ?_
              refine mm_iconst (v := nI 0) dX12_compare_150 (by decide) ?_
              refine mm_istore (L' := [(17, .int (nI (0))), (18, .int (nI (1))), (25, .long (lN ((r1) % (s1)))), (23, .long (lN ((p1) % (q1)))), (21, .long (lN ((r1) / (s1)))), (19, .long (lN ((p1) / (q1)))), (16, .int (Int32.ofInt e)), (14, .long (lN (s1))), (12, .long (lN (r1))), (10, .long (lN (q1))), (8, .long (lN (p1))), (0, .long (lN (p))), (2, .long (lN (q))), (4, .long (lN (r))), (6, .long (lN (s)))]) dX12_compare_151 (by decide) rfl ?_
              refine mm_goto (tgt := 177) dX12_compare_153 (by decide) ?_
              refine mm_goto (tgt := 23) dX12_compare_177 (by decide) ?_
              refine mm_iload dX12_compare_23 0 rfl ?_
              refine mn_if_eq (tgt := 180) dX12_compare_25 (by decide) (by omega) (fun c25 => ?_) (fun c25 => ?_)
              · have ee : cm3 (p1 * s1) (r1 * q1) = 1 := by
                  by_cases hxy : p1 / q1 = r1 / s1
                  · rw [cmq_l hxy, cmq_0 hq0 hs0 (by omega)]; first | exact cm3_lt (by omega) | exact cm3_gt (by omega) | exact cm3_e (by omega)
                  · rw [cmq_w hq0 hs0 hxy]; first | exact cm3_lt (by omega) | exact cm3_gt (by omega) | exact cm3_e (by omega)
                refine mm_iload dX12_compare_180 6 rfl ?_
                refine mm_iload dX12_compare_182 1 rfl ?_
                refine mn_top (u := .int (Int32.ofInt (1))) (congrArg Value.int (by decide)) ?_
                refine mm_imul dX12_compare_184 ?_
                exact mm_iret dX12_compare_185 rfl ⟨rfl, by rw [i32_mul, ← he, ee]⟩
              · exact absurd rfl c25
          · refine mm_lload dX12_compare_86 3 rfl ?_
            refine mm_lload dX12_compare_88 2 rfl ?_
            refine mn_lc_ne (tgt := 112) dX12_compare_90 dX12_compare_91 (by decide) (by omega) (by omega) (fun c90 => ?_) (fun c90 => ?_)
            · refine mm_lload dX12_compare_112 3 rfl ?_
              refine mm_lload dX12_compare_114 2 rfl ?_
              refine mn_lc_ne (tgt := 131) dX12_compare_116 dX12_compare_117 (by decide) (by omega) (by omega) (fun c116 => ?_) (fun c116 => ?_)
              · refine mm_iconst (v := nI 1) dX12_compare_131 (by decide) ?_
                refine mm_istore (L' := [(18, .int (nI (1))), (25, .long (lN ((r1) % (s1)))), (23, .long (lN ((p1) % (q1)))), (21, .long (lN ((r1) / (s1)))), (19, .long (lN ((p1) / (q1)))), (17, .int (nI (1))), (16, .int (Int32.ofInt e)), (14, .long (lN (s1))), (12, .long (lN (r1))), (10, .long (lN (q1))), (8, .long (lN (p1))), (0, .long (lN (p))), (2, .long (lN (q))), (4, .long (lN (r))), (6, .long (lN (s)))]) dX12_compare_132 (by decide) rfl ?_
                refine mm_lload dX12_compare_134 4 rfl ?_
                refine mm_lload dX12_compare_136 3 rfl ?_
                refine mn_lc_le (tgt := 146) dX12_compare_138 dX12_compare_139 (by decide) (by omega) (by omega) (fun c138 => ?_) (fun c138 => ?_)
                · refine mm_iload dX12_compare_146 0 rfl ?_
                  refine mm_istore (L' := [(18, .int (nI (1))), (25, .long (lN ((r1) % (s1)))), (23, .long (lN ((p1) % (q1)))), (21, .long (lN ((r1) / (s1)))), (19, .long (lN ((p1) / (q1)))), (17, .int (nI (1))), (16, .int (Int32.ofInt e)), (14, .long (lN (s1))), (12, .long (lN (r1))), (10, .long (lN (q1))), (8, .long (lN (p1))), (0, .long (lN (p))), (2, .long (lN (q))), (4, .long (lN (r))), (6, .long (lN (s)))]) dX12_compare_148 (by decide) rfl ?_
                  refine mm_iconst (v := nI 0) dX12_compare_150 (by decide) ?_
                  refine mm_istore (L' := [(17, .int (nI (0))), (18, .int (nI (1))), (25, .long (lN ((r1) % (s1)))), (23, .long (lN ((p1) % (q1)))), (21, .long (lN ((r1) / (s1)))), (19, .long (lN ((p1) / (q1)))), (16, .int (Int32.ofInt e)), (14, .long (lN (s1))), (12, .long (lN (r1))), (10, .long (lN (q1))), (8, .long (lN (p1))), (0, .long (lN (p))), (2, .long (lN (q))), (4, .long (lN (r))), (6, .long (lN (s)))]) dX12_compare_151 (by decide) rfl ?_
                  refine mm_goto (tgt := 177) dX12_compare_153 (by decide) ?_
                  refine mm_goto (tgt := 23) dX12_compare_177 (by decide) ?_
                  refine mm_iload dX12_compare_23 0 rfl ?_
                  refine mn_if_eq (tgt := 180) dX12_compare_25 (by decide) (by omega) (fun c25 => ?_) (fun c25 => ?_)
                  · have ee : cm3 (p1 * s1) (r1 * q1) = 1 := by
                      by_cases hxy : p1 / q1 = r1 / s1
                      · rw [cmq_l hxy, cmq_0 hq0 hs0 (by omega)]; first | exact cm3_lt (by omega) | exact cm3_gt (by omega) | exact cm3_e (by omega)
                      · rw [cmq_w hq0 hs0 hxy]; first | exact cm3_lt (by omega) | exact cm3_gt (by omega) | exact cm3_e (by omega)
                    refine mm_iload dX12_compare_180 6 rfl ?_
                    refine mm_iload dX12_compare_182 1 rfl ?_
                    refine mn_top (u := .int (Int32.ofInt (1))) (congrArg Value.int (by decide)) ?_
                    refine mm_imul dX12_compare_184 ?_
                    exact mm_iret dX12_compare_185 rfl ⟨rfl, by rw [i32_mul, ← he, ee]⟩
                  · exact absurd rfl c25
                · refine mm_iconst (v := nI 1) dX12_compare_142 (by decide) ?_
                  refine mm_goto (tgt := 148) dX12_compare_143 (by decide) ?_
                  refine mm_istore (L' := [(18, .int (nI (1))), (25, .long (lN ((r1) % (s1)))), (23, .long (lN ((p1) % (q1)))), (21, .long (lN ((r1) / (s1)))), (19, .long (lN ((p1) / (q1)))), (17, .int (nI (1))), (16, .int (Int32.ofInt e)), (14, .long (lN (s1))), (12, .long (lN (r1))), (10, .long (lN (q1))), (8, .long (lN (p1))), (0, .long (lN (p))), (2, .long (lN (q))), (4, .long (lN (r))), (6, .long (lN (s)))]) dX12_compare_148 (by decide) rfl ?_
                  refine mm_iconst (v := nI 0) dX12_compare_150 (by decide) ?_
                  refine mm_istore (L' := [(17, .int (nI (0))), (18, .int (nI (1))), (25, .long (lN ((r1) % (s1)))), (23, .long (lN ((p1) % (q1)))), (21, .long (lN ((r1) / (s1)))), (19, .long (lN ((p1) / (q1)))), (16, .int (Int32.ofInt e)), (14, .long (lN (s1))), (12, .long (lN (r1))), (10, .long (lN (q1))), (8, .long (lN (p1))), (0, .long (lN (p))), (2, .long (lN (q))), (4, .long (lN (r))), (6, .long (lN (s)))]) dX12_compare_151 (by decide) rfl ?_
                  refine mm_goto (tgt := 177) dX12_compare_153 (by decide) ?_
                  refine mm_goto (tgt := 23) dX12_compare_177 (by decide) ?_
                  refine mm_iload dX12_compare_23 0 rfl ?_
                  refine mn_if_eq (tgt := 180) dX12_compare_25 (by decide) (by omega) (fun c25 => ?_) (fun c25 => ?_)
                  · have ee : cm3 (p1 * s1) (r1 * q1) = 1 := by
                      by_cases hxy : p1 / q1 = r1 / s1
                      · rw [cmq_l hxy, cmq_0 hq0 hs0 (by omega)]; first | exact cm3_lt (by omega) | exact cm3_gt (by omega) | exact cm3_e (by omega)
                      · rw [cmq_w hq0 hs0 hxy]; first | exact cm3_lt (by omega) | exact cm3_gt (by omega) | exact cm3_e (by omega)
                    refine mm_iload dX12_compare_180 6 rfl ?_
                    refine mm_iload dX12_compare_182 1 rfl ?_
                    refine mn_top (u := .int (Int32.ofInt (1))) (congrArg Value.int (by decide)) ?_
                    refine mm_imul dX12_compare_184 ?_
                    exact mm_iret dX12_compare_185 rfl ⟨rfl, by rw [i32_mul, ← he, ee]⟩
                  · exact absurd rfl c25
              · refine mm_lload dX12_compare_120 1 rfl ?_
                refine mm_lconst (v := lN 0) dX12_compare_122 (by decide) ?_
                refine mn_lc_ne (tgt := 131) dX12_compare_123 dX12_compare_124 (by decide) (by omega) (by omega) (fun c123 => ?_) (fun c123 => ?_)
                · refine mm_iconst (v := nI 1) dX12_compare_131 (by decide) ?_
                  refine mm_istore (L' := [(18, .int (nI (1))), (25, .long (lN ((r1) % (s1)))), (23, .long (lN ((p1) % (q1)))), (21, .long (lN ((r1) / (s1)))), (19, .long (lN ((p1) / (q1)))), (17, .int (nI (1))), (16, .int (Int32.ofInt e)), (14, .long (lN (s1))), (12, .long (lN (r1))), (10, .long (lN (q1))), (8, .long (lN (p1))), (0, .long (lN (p))), (2, .long (lN (q))), (4, .long (lN (r))), (6, .long (lN (s)))]) dX12_compare_132 (by decide) rfl ?_
                  refine mm_lload dX12_compare_134 4 rfl ?_
                  refine mm_lload dX12_compare_136 3 rfl ?_
                  refine mn_lc_le (tgt := 146) dX12_compare_138 dX12_compare_139 (by decide) (by omega) (by omega) (fun c138 => ?_) (fun c138 => ?_)
                  · refine mm_iload dX12_compare_146 0 rfl ?_
                    refine mm_istore (L' := [(18, .int (nI (1))), (25, .long (lN ((r1) % (s1)))), (23, .long (lN ((p1) % (q1)))), (21, .long (lN ((r1) / (s1)))), (19, .long (lN ((p1) / (q1)))), (17, .int (nI (1))), (16, .int (Int32.ofInt e)), (14, .long (lN (s1))), (12, .long (lN (r1))), (10, .long (lN (q1))), (8, .long (lN (p1))), (0, .long (lN (p))), (2, .long (lN (q))), (4, .long (lN (r))), (6, .long (lN (s)))]) dX12_compare_148 (by decide) rfl ?_
                    refine mm_iconst (v := nI 0) dX12_compare_150 (by decide) ?_
                    refine mm_istore (L' := [(17, .int (nI (0))), (18, .int (nI (1))), (25, .long (lN ((r1) % (s1)))), (23, .long (lN ((p1) % (q1)))), (21, .long (lN ((r1) / (s1)))), (19, .long (lN ((p1) / (q1)))), (16, .int (Int32.ofInt e)), (14, .long (lN (s1))), (12, .long (lN (r1))), (10, .long (lN (q1))), (8, .long (lN (p1))), (0, .long (lN (p))), (2, .long (lN (q))), (4, .long (lN (r))), (6, .long (lN (s)))]) dX12_compare_151 (by decide) rfl ?_
                    refine mm_goto (tgt := 177) dX12_compare_153 (by decide) ?_
                    refine mm_goto (tgt := 23) dX12_compare_177 (by decide) ?_
                    refine mm_iload dX12_compare_23 0 rfl ?_
                    refine mn_if_eq (tgt := 180) dX12_compare_25 (by decide) (by omega) (fun c25 => ?_) (fun c25 => ?_)
                    · have ee : cm3 (p1 * s1) (r1 * q1) = 1 := by
                        by_cases hxy : p1 / q1 = r1 / s1
                        · rw [cmq_l hxy, cmq_0 hq0 hs0 (by omega)]; first | exact cm3_lt (by omega) | exact cm3_gt (by omega) | exact cm3_e (by omega)
                        · rw [cmq_w hq0 hs0 hxy]; first | exact cm3_lt (by omega) | exact cm3_gt (by omega) | exact cm3_e (by omega)
                      refine mm_iload dX12_compare_180 6 rfl ?_
                      refine mm_iload dX12_compare_182 1 rfl ?_
                      refine mn_top (u := .int (Int32.ofInt (1))) (congrArg Value.int (by decide)) ?_
                      refine mm_imul dX12_compare_184 ?_
                      exact mm_iret dX12_compare_185 rfl ⟨rfl, by rw [i32_mul, ← he, ee]⟩
                    · exact absurd rfl c25
                  · refine mm_iconst (v := nI 1) dX12_compare_142 (by decide) ?_
                    refine mm_goto (tgt := 148) dX12_compare_143 (by decide) ?_
                    refine mm_istore (L' := [(18, .int (nI (1))), (25, .long (lN ((r1) % (s1)))), (23, .long (lN ((p1) % (q1)))), (21, .long (lN ((r1) / (s1)))), (19, .long (lN ((p1) / (q1)))), (17, .int (nI (1))), (16, .int (Int32.ofInt e)), (14, .long (lN (s1))), (12, .long (lN (r1))), (10, .long (lN (q1))), (8, .long (lN (p1))), (0, .long (lN (p))), (2, .long (lN (q))), (4, .long (lN (r))), (6, .long (lN (s)))]) dX12_compare_148 (by decide) rfl ?_
                    refine mm_iconst (v := nI 0) dX12_compare_150 (by decide) ?_
                    refine mm_istore (L' := [(17, .int (nI (0))), (18, .int (nI (1))), (25, .long (lN ((r1) % (s1)))), (23, .long (lN ((p1) % (q1)))), (21, .long (lN ((r1) / (s1)))), (19, .long (lN ((p1) / (q1)))), (16, .int (Int32.ofInt e)), (14, .long (lN (s1))), (12, .long (lN (r1))), (10, .long (lN (q1))), (8, .long (lN (p1))), (0, .long (lN (p))), (2, .long (lN (q))), (4, .long (lN (r))), (6, .long (lN (s)))]) dX12_compare_151 (by decide) rfl ?_
                    refine mm_goto (tgt := 177) dX12_compare_153 (by decide) ?_
                    refine mm_goto (tgt := 23) dX12_compare_177 (by decide) ?_
                    refine mm_iload dX12_compare_23 0 rfl ?_
                    refine mn_if_eq (tgt := 180) dX12_compare_25 (by decide) (by omega) (fun c25 => ?_) (fun c25 => ?_)
                    · have ee : cm3 (p1 * s1) (r1 * q1) = 1 := by
                        by_cases hxy : p1 / q1 = r1 / s1
                        · rw [cmq_l hxy, cmq_0 hq0 hs0 (by omega)]; first | exact cm3_lt (by omega) | exact cm3_gt (by omega) | exact cm3_e (by omega)
                        · rw [cmq_w hq0 hs0 hxy]; first | exact cm3_lt (by omega) | exact cm3_gt (by omega) | exact cm3_e (by omega)
                      refine mm_iload dX12_compare_180 6 rfl ?_
                      refine mm_iload dX12_compare_182 1 rfl ?_
                      refine mn_top (u := .int (Int32.ofInt (1))) (congrArg Value.int (by decide)) ?_
                      refine mm_imul dX12_compare_184 ?_
                      exact mm_iret dX12_compare_185 rfl ⟨rfl, by rw [i32_mul, ← he, ee]⟩
                    · exact absurd rfl c25
                · refine mm_iconst (v := nI 0) dX12_compare_127 (by decide) ?_
                  refine mm_goto (tgt := 132) dX12_compare_128 (by decide) ?_
                  refine mm_istore (L' := [(18, .int (nI (0))), (25, .long (lN ((r1) % (s1)))), (23, .long (lN ((p1) % (q1)))), (21, .long (lN ((r1) / (s1)))), (19, .long (lN ((p1) / (q1)))), (17, .int (nI (1))), (16, .int (Int32.ofInt e)), (14, .long (lN (s1))), (12, .long (lN (r1))), (10, .long (lN (q1))), (8, .long (lN (p1))), (0, .long (lN (p))), (2, .long (lN (q))), (4, .long (lN (r))), (6, .long (lN (s)))]) dX12_compare_132 (by decide) rfl ?_
                  refine mm_lload dX12_compare_134 4 rfl ?_
                  refine mm_lload dX12_compare_136 3 rfl ?_
                  refine mn_lc_le (tgt := 146) dX12_compare_138 dX12_compare_139 (by decide) (by omega) (by omega) (fun c138 => ?_) (fun c138 => ?_)
                  · refine mm_iload dX12_compare_146 0 rfl ?_
                    refine mm_istore (L' := [(18, .int (nI (0))), (25, .long (lN ((r1) % (s1)))), (23, .long (lN ((p1) % (q1)))), (21, .long (lN ((r1) / (s1)))), (19, .long (lN ((p1) / (q1)))), (17, .int (nI (1))), (16, .int (Int32.ofInt e)), (14, .long (lN (s1))), (12, .long (lN (r1))), (10, .long (lN (q1))), (8, .long (lN (p1))), (0, .long (lN (p))), (2, .long (lN (q))), (4, .long (lN (r))), (6, .long (lN (s)))]) dX12_compare_148 (by decide) rfl ?_
                    refine mm_iconst (v := nI 0) dX12_compare_150 (by decide) ?_
                    refine mm_istore (L' := [(17, .int (nI (0))), (18, .int (nI (0))), (25, .long (lN ((r1) % (s1)))), (23, .long (lN ((p1) % (q1)))), (21, .long (lN ((r1) / (s1)))), (19, .long (lN ((p1) / (q1)))), (16, .int (Int32.ofInt e)), (14, .long (lN (s1))), (12, .long (lN (r1))), (10, .long (lN (q1))), (8, .long (lN (p1))), (0, .long (lN (p))), (2, .long (lN (q))), (4, .long (lN (r))), (6, .long (lN (s)))]) dX12_compare_151 (by decide) rfl ?_
                    refine mm_goto (tgt := 177) dX12_compare_153 (by decide) ?_
                    refine mm_goto (tgt := 23) dX12_compare_177 (by decide) ?_
                    refine mm_iload dX12_compare_23 0 rfl ?_
                    refine mn_if_eq (tgt := 180) dX12_compare_25 (by decide) (by omega) (fun c25 => ?_) (fun c25 => ?_)
                    · have ee : cm3 (p1 * s1) (r1 * q1) = 0 := by
                        by_cases hxy : p1 / q1 = r1 / s1
                        · rw [cmq_l hxy, cmq_0 hq0 hs0 (by omega)]; first | exact cm3_lt (by omega) | exact cm3_gt (by omega) | exact cm3_e (by omega)
                        · rw [cmq_w hq0 hs0 hxy]; first | exact cm3_lt (by omega) | exact cm3_gt (by omega) | exact cm3_e (by omega)
                      refine mm_iload dX12_compare_180 6 rfl ?_
                      refine mm_iload dX12_compare_182 1 rfl ?_
                      refine mn_top (u := .int (Int32.ofInt (0))) (congrArg Value.int (by decide)) ?_
                      refine mm_imul dX12_compare_184 ?_
                      exact mm_iret dX12_compare_185 rfl ⟨rfl, by rw [i32_mul, ← he, ee]⟩
                    · exact absurd rfl c25
                  · refine mm_iconst (v := nI 1) dX12_compare_142 (by decide) ?_
                    refine mm_goto (tgt := 148) dX12_compare_143 (by decide) ?_
                    refine mm_istore (L' := [(18, .int (nI (1))), (25, .long (lN ((r1) % (s1)))), (23, .long (lN ((p1) % (q1)))), (21, .long (lN ((r1) / (s1)))), (19, .long (lN ((p1) / (q1)))), (17, .int (nI (1))), (16, .int (Int32.ofInt e)), (14, .long (lN (s1))), (12, .long (lN (r1))), (10, .long (lN (q1))), (8, .long (lN (p1))), (0, .long (lN (p))), (2, .long (lN (q))), (4, .long (lN (r))), (6, .long (lN (s)))]) dX12_compare_148 (by decide) rfl ?_
                    refine mm_iconst (v := nI 0) dX12_compare_150 (by decide) ?_
                    refine mm_istore (L' := [(17, .int (nI (0))), (18, .int (nI (1))), (25, .long (lN ((r1) % (s1)))), (23, .long (lN ((p1) % (q1)))), (21, .long (lN ((r1) / (s1)))), (19, .long (lN ((p1) / (q1)))), (16, .int (Int32.ofInt e)), (14, .long (lN (s1))), (12, .long (lN (r1))), (10, .long (lN (q1))), (8, .long (lN (p1))), (0, .long (lN (p))), (2, .long (lN (q))), (4, .long (lN (r))), (6, .long (lN (s)))]) dX12_compare_151 (by decide) rfl ?_
                    refine mm_goto (tgt := 177) dX12_compare_153 (by decide) ?_
                    refine mm_goto (tgt := 23) dX12_compare_177 (by decide) ?_
                    refine mm_iload dX12_compare_23 0 rfl ?_
                    refine mn_if_eq (tgt := 180) dX12_compare_25 (by decide) (by omega) (fun c25 => ?_) (fun c25 => ?_)
                    · have ee : cm3 (p1 * s1) (r1 * q1) = 1 := by
                        by_cases hxy : p1 / q1 = r1 / s1
                        · rw [cmq_l hxy, cmq_0 hq0 hs0 (by omega)]; first | exact cm3_lt (by omega) | exact cm3_gt (by omega) | exact cm3_e (by omega)
                        · rw [cmq_w hq0 hs0 hxy]; first | exact cm3_lt (by omega) | exact cm3_gt (by omega) | exact cm3_e (by omega)
                      refine mm_iload dX12_compare_180 6 rfl ?_
                      refine mm_iload dX12_compare_182 1 rfl ?_
                      refine mn_top (u := .int (Int32.ofInt (1))) (congrArg Value.int (by decide)) ?_
                      refine mm_imul dX12_compare_184 ?_
                      exact mm_iret dX12_compare_185 rfl ⟨rfl, by rw [i32_mul, ← he, ee]⟩
                    · exact absurd rfl c25
            · refine mm_lload dX12_compare_94 1 rfl ?_
              refine mm_lconst (v := lN 0) dX12_compare_96 (by decide) ?_
              refine mn_lc_ne (tgt := 112) dX12_compare_97 dX12_compare_98 (by decide) (by omega) (by omega) (fun c97 => ?_) (fun c97 => ?_)
              · refine mm_lload dX12_compare_112 3 rfl ?_
                refine mm_lload dX12_compare_114 2 rfl ?_
                refine mn_lc_ne (tgt := 131) dX12_compare_116 dX12_compare_117 (by decide) (by omega) (by omega) (fun c116 => ?_) (fun c116 => ?_)
                · refine mm_iconst (v := nI 1) dX12_compare_131 (by decide) ?_
                  refine mm_istore (L' := [(18, .int (nI (1))), (25, .long (lN ((r1) % (s1)))), (23, .long (lN ((p1) % (q1)))), (21, .long (lN ((r1) / (s1)))), (19, .long (lN ((p1) / (q1)))), (17, .int (nI (1))), (16, .int (Int32.ofInt e)), (14, .long (lN (s1))), (12, .long (lN (r1))), (10, .long (lN (q1))), (8, .long (lN (p1))), (0, .long (lN (p))), (2, .long (lN (q))), (4, .long (lN (r))), (6, .long (lN (s)))]) dX12_compare_132 (by decide) rfl ?_
                  refine mm_lload dX12_compare_134 4 rfl ?_
                  refine mm_lload dX12_compare_136 3 rfl ?_
                  refine mn_lc_le (tgt := 146) dX12_compare_138 dX12_compare_139 (by decide) (by omega) (by omega) (fun c138 => ?_) (fun c138 => ?_)
                  · refine mm_iload dX12_compare_146 0 rfl ?_
                    refine mm_istore (L' := [(18, .int (nI (1))), (25, .long (lN ((r1) % (s1)))), (23, .long (lN ((p1) % (q1)))), (21, .long (lN ((r1) / (s1)))), (19, .long (lN ((p1) / (q1)))), (17, .int (nI (1))), (16, .int (Int32.ofInt e)), (14, .long (lN (s1))), (12, .long (lN (r1))), (10, .long (lN (q1))), (8, .long (lN (p1))), (0, .long (lN (p))), (2, .long (lN (q))), (4, .long (lN (r))), (6, .long (lN (s)))]) dX12_compare_148 (by decide) rfl ?_
                    refine mm_iconst (v := nI 0) dX12_compare_150 (by decide) ?_
                    refine mm_istore (L' := [(17, .int (nI (0))), (18, .int (nI (1))), (25, .long (lN ((r1) % (s1)))), (23, .long (lN ((p1) % (q1)))), (21, .long (lN ((r1) / (s1)))), (19, .long (lN ((p1) / (q1)))), (16, .int (Int32.ofInt e)), (14, .long (lN (s1))), (12, .long (lN (r1))), (10, .long (lN (q1))), (8, .long (lN (p1))), (0, .long (lN (p))), (2, .long (lN (q))), (4, .long (lN (r))), (6, .long (lN (s)))]) dX12_compare_151 (by decide) rfl ?_
                    refine mm_goto (tgt := 177) dX12_compare_153 (by decide) ?_
                    refine mm_goto (tgt := 23) dX12_compare_177 (by decide) ?_
                    refine mm_iload dX12_compare_23 0 rfl ?_
                    refine mn_if_eq (tgt := 180) dX12_compare_25 (by decide) (by omega) (fun c25 => ?_) (fun c25 => ?_)
                    · have ee : cm3 (p1 * s1) (r1 * q1) = 1 := by
                        by_cases hxy : p1 / q1 = r1 / s1
                        · rw [cmq_l hxy, cmq_0 hq0 hs0 (by omega)]; first | exact cm3_lt (by omega) | exact cm3_gt (by omega) | exact cm3_e (by omega)
                        · rw [cmq_w hq0 hs0 hxy]; first | exact cm3_lt (by omega) | exact cm3_gt (by omega) | exact cm3_e (by omega)
                      refine mm_iload dX12_compare_180 6 rfl ?_
                      refine mm_iload dX12_compare_182 1 rfl ?_
                      refine mn_top (u := .int (Int32.ofInt (1))) (congrArg Value.int (by decide)) ?_
                      refine mm_imul dX12_compare_184 ?_
                      exact mm_iret dX12_compare_185 rfl ⟨rfl, by rw [i32_mul, ← he, ee]⟩
                    · exact absurd rfl c25
                  · refine mm_iconst (v := nI 1) dX12_compare_142 (by decide) ?_
                    refine mm_goto (tgt := 148) dX12_compare_143 (by decide) ?_
                    refine mm_istore (L' := [(18, .int (nI (1))), (25, .long (lN ((r1) % (s1)))), (23, .long (lN ((p1) % (q1)))), (21, .long (lN ((r1) / (s1)))), (19, .long (lN ((p1) / (q1)))), (17, .int (nI (1))), (16, .int (Int32.ofInt e)), (14, .long (lN (s1))), (12, .long (lN (r1))), (10, .long (lN (q1))), (8, .long (lN (p1))), (0, .long (lN (p))), (2, .long (lN (q))), (4, .long (lN (r))), (6, .long (lN (s)))]) dX12_compare_148 (by decide) rfl ?_
                    refine mm_iconst (v := nI 0) dX12_compare_150 (by decide) ?_
                    refine mm_istore (L' := [(17, .int (nI (0))), (18, .int (nI (1))), (25, .long (lN ((r1) % (s1)))), (23, .long (lN ((p1) % (q1)))), (21, .long (lN ((r1) / (s1)))), (19, .long (lN ((p1) / (q1)))), (16, .int (Int32.ofInt e)), (14, .long (lN (s1))), (12, .long (lN (r1))), (10, .long (lN (q1))), (8, .long (lN (p1))), (0, .long (lN (p))), (2, .long (lN (q))), (4, .long (lN (r))), (6, .long (lN (s)))]) dX12_compare_151 (by decide) rfl ?_
                    refine mm_goto (tgt := 177) dX12_compare_153 (by decide) ?_
                    refine mm_goto (tgt := 23) dX12_compare_177 (by decide) ?_
                    refine mm_iload dX12_compare_23 0 rfl ?_
                    refine mn_if_eq (tgt := 180) dX12_compare_25 (by decide) (by omega) (fun c25 => ?_) (fun c25 => ?_)
                    · have ee : cm3 (p1 * s1) (r1 * q1) = 1 := by
                        by_cases hxy : p1 / q1 = r1 / s1
                        · rw [cmq_l hxy, cmq_0 hq0 hs0 (by omega)]; first | exact cm3_lt (by omega) | exact cm3_gt (by omega) | exact cm3_e (by omega)
                        · rw [cmq_w hq0 hs0 hxy]; first | exact cm3_lt (by omega) | exact cm3_gt (by omega) | exact cm3_e (by omega)
                      refine mm_iload dX12_compare_180 6 rfl ?_
                      refine mm_iload dX12_compare_182 1 rfl ?_
                      refine mn_top (u := .int (Int32.ofInt (1))) (congrArg Value.int (by decide)) ?_
                      refine mm_imul dX12_compare_184 ?_
                      exact mm_iret dX12_compare_185 rfl ⟨rfl, by rw [i32_mul, ← he, ee]⟩
                    · exact absurd rfl c25
                · refine mm_lload dX12_compare_120 1 rfl ?_
                  refine mm_lconst (v := lN 0) dX12_compare_122 (by decide) ?_
                  refine mn_lc_ne (tgt := 131) dX12_compare_123 dX12_compare_124 (by decide) (by omega) (by omega) (fun c123 => ?_) (fun c123 => ?_)
                  · refine mm_iconst (v := nI 1) dX12_compare_131 (by decide) ?_
                    refine mm_istore (L' := [(18, .int (nI (1))), (25, .long (lN ((r1) % (s1)))), (23, .long (lN ((p1) % (q1)))), (21, .long (lN ((r1) / (s1)))), (19, .long (lN ((p1) / (q1)))), (17, .int (nI (1))), (16, .int (Int32.ofInt e)), (14, .long (lN (s1))), (12, .long (lN (r1))), (10, .long (lN (q1))), (8, .long (lN (p1))), (0, .long (lN (p))), (2, .long (lN (q))), (4, .long (lN (r))), (6, .long (lN (s)))]) dX12_compare_132 (by decide) rfl ?_
                    refine mm_lload dX12_compare_134 4 rfl ?_
                    refine mm_lload dX12_compare_136 3 rfl ?_
                    refine mn_lc_le (tgt := 146) dX12_compare_138 dX12_compare_139 (by decide) (by omega) (by omega) (fun c138 => ?_) (fun c138 => ?_)
                    · refine mm_iload dX12_compare_146 0 rfl ?_
                      refine mm_istore (L' := [(18, .int (nI (1))), (25, .long (lN ((r1) % (s1)))), (23, .long (lN ((p1) % (q1)))), (21, .long (lN ((r1) / (s1)))), (19, .long (lN ((p1) / (q1)))), (17, .int (nI (1))), (16, .int (Int32.ofInt e)), (14, .long (lN (s1))), (12, .long (lN (r1))), (10, .long (lN (q1))), (8, .long (lN (p1))), (0, .long (lN (p))), (2, .long (lN (q))), (4, .long (lN (r))), (6, .long (lN (s)))]) dX12_compare_148 (by decide) rfl ?_
                      refine mm_iconst (v := nI 0) dX12_compare_150 (by decide) ?_
                      refine mm_istore (L' := [(17, .int (nI (0))), (18, .int (nI (1))), (25, .long (lN ((r1) % (s1)))), (23, .long (lN ((p1) % (q1)))), (21, .long (lN ((r1) / (s1)))), (19, .long (lN ((p1) / (q1)))), (16, .int (Int32.ofInt e)), (14, .long (lN (s1))), (12, .long (lN (r1))), (10, .long (lN (q1))), (8, .long (lN (p1))), (0, .long (lN (p))), (2, .long (lN (q))), (4, .long (lN (r))), (6, .long (lN (s)))]) dX12_compare_151 (by decide) rfl ?_
                      refine mm_goto (tgt := 177) dX12_compare_153 (by decide) ?_
                      refine mm_goto (tgt := 23) dX12_compare_177 (by decide) ?_
                      refine mm_iload dX12_compare_23 0 rfl ?_
                      refine mn_if_eq (tgt := 180) dX12_compare_25 (by decide) (by omega) (fun c25 => ?_) (fun c25 => ?_)
                      · have ee : cm3 (p1 * s1) (r1 * q1) = 1 := by
                          by_cases hxy : p1 / q1 = r1 / s1
                          · rw [cmq_l hxy, cmq_0 hq0 hs0 (by omega)]; first | exact cm3_lt (by omega) | exact cm3_gt (by omega) | exact cm3_e (by omega)
                          · rw [cmq_w hq0 hs0 hxy]; first | exact cm3_lt (by omega) | exact cm3_gt (by omega) | exact cm3_e (by omega)
                        refine mm_iload dX12_compare_180 6 rfl ?_
                        refine mm_iload dX12_compare_182 1 rfl ?_
                        refine mn_top (u := .int (Int32.ofInt (1))) (congrArg Value.int (by decide)) ?_
                        refine mm_imul dX12_compare_184 ?_
                        exact mm_iret dX12_compare_185 rfl ⟨rfl, by rw [i32_mul, ← he, ee]⟩
                      · exact absurd rfl c25
                    · refine mm_iconst (v := nI 1) dX12_compare_142 (by decide) ?_
                      refine mm_goto (tgt := 148) dX12_compare_143 (by decide) ?_
                      refine mm_istore (L' := [(18, .int (nI (1))), (25, .long (lN ((r1) % (s1)))), (23, .long (lN ((p1) % (q1)))), (21, .long (lN ((r1) / (s1)))), (19, .long (lN ((p1) / (q1)))), (17, .int (nI (1))), (16, .int (Int32.ofInt e)), (14, .long (lN (s1))), (12, .long (lN (r1))), (10, .long (lN (q1))), (8, .long (lN (p1))), (0, .long (lN (p))), (2, .long (lN (q))), (4, .long (lN (r))), (6, .long (lN (s)))]) dX12_compare_148 (by decide) rfl ?_
                      refine mm_iconst (v := nI 0) dX12_compare_150 (by decide) ?_
                      refine mm_istore (L' := [(17, .int (nI (0))), (18, .int (nI (1))), (25, .long (lN ((r1) % (s1)))), (23, .long (lN ((p1) % (q1)))), (21, .long (lN ((r1) / (s1)))), (19, .long (lN ((p1) / (q1)))), (16, .int (Int32.ofInt e)), (14, .long (lN (s1))), (12, .long (lN (r1))), (10, .long (lN (q1))), (8, .long (lN (p1))), (0, .long (lN (p))), (2, .long (lN (q))), (4, .long (lN (r))), (6, .long (lN (s)))]) dX12_compare_151 (by decide) rfl ?_
                      refine mm_goto (tgt := 177) dX12_compare_153 (by decide) ?_
                      refine mm_goto (tgt := 23) dX12_compare_177 (by decide) ?_
                      refine mm_iload dX12_compare_23 0 rfl ?_
                      refine mn_if_eq (tgt := 180) dX12_compare_25 (by decide) (by omega) (fun c25 => ?_) (fun c25 => ?_)
                      · have ee : cm3 (p1 * s1) (r1 * q1) = 1 := by
                          by_cases hxy : p1 / q1 = r1 / s1
                          · rw [cmq_l hxy, cmq_0 hq0 hs0 (by omega)]; first | exact cm3_lt (by omega) | exact cm3_gt (by omega) | exact cm3_e (by omega)
                          · rw [cmq_w hq0 hs0 hxy]; first | exact cm3_lt (by omega) | exact cm3_gt (by omega) | exact cm3_e (by omega)
                        refine mm_iload dX12_compare_180 6 rfl ?_
                        refine mm_iload dX12_compare_182 1 rfl ?_
                        refine mn_top (u := .int (Int32.ofInt (1))) (congrArg Value.int (by decide)) ?_
                        refine mm_imul dX12_compare_184 ?_
                        exact mm_iret dX12_compare_185 rfl ⟨rfl, by rw [i32_mul, ← he, ee]⟩
                      · exact absurd rfl c25
                  · refine mm_iconst (v := nI 0) dX12_compare_127 (by decide) ?_
                    refine mm_goto (tgt := 132) dX12_compare_128 (by decide) ?_
                    refine mm_istore (L' := [(18, .int (nI (0))), (25, .long (lN ((r1) % (s1)))), (23, .long (lN ((p1) % (q1)))), (21, .long (lN ((r1) / (s1)))), (19, .long (lN ((p1) / (q1)))), (17, .int (nI (1))), (16, .int (Int32.ofInt e)), (14, .long (lN (s1))), (12, .long (lN (r1))), (10, .long (lN (q1))), (8, .long (lN (p1))), (0, .long (lN (p))), (2, .long (lN (q))), (4, .long (lN (r))), (6, .long (lN (s)))]) dX12_compare_132 (by decide) rfl ?_
                    refine mm_lload dX12_compare_134 4 rfl ?_
                    refine mm_lload dX12_compare_136 3 rfl ?_
                    refine mn_lc_le (tgt := 146) dX12_compare_138 dX12_compare_139 (by decide) (by omega) (by omega) (fun c138 => ?_) (fun c138 => ?_)
                    · refine mm_iload dX12_compare_146 0 rfl ?_
                      refine mm_istore (L' := [(18, .int (nI (0))), (25, .long (lN ((r1) % (s1)))), (23, .long (lN ((p1) % (q1)))), (21, .long (lN ((r1) / (s1)))), (19, .long (lN ((p1) / (q1)))), (17, .int (nI (1))), (16, .int (Int32.ofInt e)), (14, .long (lN (s1))), (12, .long (lN (r1))), (10, .long (lN (q1))), (8, .long (lN (p1))), (0, .long (lN (p))), (2, .long (lN (q))), (4, .long (lN (r))), (6, .long (lN (s)))]) dX12_compare_148 (by decide) rfl ?_
                      refine mm_iconst (v := nI 0) dX12_compare_150 (by decide) ?_
                      refine mm_istore (L' := [(17, .int (nI (0))), (18, .int (nI (0))), (25, .long (lN ((r1) % (s1)))), (23, .long (lN ((p1) % (q1)))), (21, .long (lN ((r1) / (s1)))), (19, .long (lN ((p1) / (q1)))), (16, .int (Int32.ofInt e)), (14, .long (lN (s1))), (12, .long (lN (r1))), (10, .long (lN (q1))), (8, .long (lN (p1))), (0, .long (lN (p))), (2, .long (lN (q))), (4, .long (lN (r))), (6, .long (lN (s)))]) dX12_compare_151 (by decide) rfl ?_
                      refine mm_goto (tgt := 177) dX12_compare_153 (by decide) ?_
                      refine mm_goto (tgt := 23) dX12_compare_177 (by decide) ?_
                      refine mm_iload dX12_compare_23 0 rfl ?_
                      refine mn_if_eq (tgt := 180) dX12_compare_25 (by decide) (by omega) (fun c25 => ?_) (fun c25 => ?_)
                      · have ee : cm3 (p1 * s1) (r1 * q1) = 0 := by
                          by_cases hxy : p1 / q1 = r1 / s1
                          · rw [cmq_l hxy, cmq_0 hq0 hs0 (by omega)]; first | exact cm3_lt (by omega) | exact cm3_gt (by omega) | exact cm3_e (by omega)
                          · rw [cmq_w hq0 hs0 hxy]; first | exact cm3_lt (by omega) | exact cm3_gt (by omega) | exact cm3_e (by omega)
                        refine mm_iload dX12_compare_180 6 rfl ?_
                        refine mm_iload dX12_compare_182 1 rfl ?_
                        refine mn_top (u := .int (Int32.ofInt (0))) (congrArg Value.int (by decide)) ?_
                        refine mm_imul dX12_compare_184 ?_
                        exact mm_iret dX12_compare_185 rfl ⟨rfl, by rw [i32_mul, ← he, ee]⟩
                      · exact absurd rfl c25
                    · refine mm_iconst (v := nI 1) dX12_compare_142 (by decide) ?_
                      refine mm_goto (tgt := 148) dX12_compare_143 (by decide) ?_
                      refine mm_istore (L' := [(18, .int (nI (1))), (25, .long (lN ((r1) % (s1)))), (23, .long (lN ((p1) % (q1)))), (21, .long (lN ((r1) / (s1)))), (19, .long (lN ((p1) / (q1)))), (17, .int (nI (1))), (16, .int (Int32.ofInt e)), (14, .long (lN (s1))), (12, .long (lN (r1))), (10, .long (lN (q1))), (8, .long (lN (p1))), (0, .long (lN (p))), (2, .long (lN (q))), (4, .long (lN (r))), (6, .long (lN (s)))]) dX12_compare_148 (by decide) rfl ?_
                      refine mm_iconst (v := nI 0) dX12_compare_150 (by decide) ?_
                      refine mm_istore (L' := [(17, .int (nI (0))), (18, .int (nI (1))), (25, .long (lN ((r1) % (s1)))), (23, .long (lN ((p1) % (q1)))), (21, .long (lN ((r1) / (s1)))), (19, .long (lN ((p1) / (q1)))), (16, .int (Int32.ofInt e)), (14, .long (lN (s1))), (12, .long (lN (r1))), (10, .long (lN (q1))), (8, .long (lN (p1))), (0, .long (lN (p))), (2, .long (lN (q))), (4, .long (lN (r))), (6, .long (lN (s)))]) dX12_compare_151 (by decide) rfl ?_
                      refine mm_goto (tgt := 177) dX12_compare_153 (by decide) ?_
                      refine mm_goto (tgt := 23) dX12_compare_177 (by decide) ?_
                      refine mm_iload dX12_compare_23 0 rfl ?_
                      refine mn_if_eq (tgt := 180) dX12_compare_25 (by decide) (by omega) (fun c25 => ?_) (fun c25 => ?_)
                      · have ee : cm3 (p1 * s1) (r1 * q1) = 1 := by
                          by_cases hxy : p1 / q1 = r1 / s1
                          · rw [cmq_l hxy, cmq_0 hq0 hs0 (by omega)]; first | exact cm3_lt (by omega) | exact cm3_gt (by omega) | exact cm3_e (by omega)
                          · rw [cmq_w hq0 hs0 hxy]; first | exact cm3_lt (by omega) | exact cm3_gt (by omega) | exact cm3_e (by omega)
                        refine mm_iload dX12_compare_180 6 rfl ?_
                        refine mm_iload dX12_compare_182 1 rfl ?_
                        refine mn_top (u := .int (Int32.ofInt (1))) (congrArg Value.int (by decide)) ?_
                        refine mm_imul dX12_compare_184 ?_
                        exact mm_iret dX12_compare_185 rfl ⟨rfl, by rw [i32_mul, ← he, ee]⟩
                      · exact absurd rfl c25
              · refine mm_lload dX12_compare_101 0 rfl ?_
                refine mm_lconst (v := lN 0) dX12_compare_103 (by decide) ?_
                refine mn_lc_le (tgt := 112) dX12_compare_104 dX12_compare_105 (by decide) (by omega) (by omega) (fun c104 => ?_) (fun c104 => ?_)
                · refine mm_lload dX12_compare_112 3 rfl ?_
                  refine mm_lload dX12_compare_114 2 rfl ?_
                  refine mn_lc_ne (tgt := 131) dX12_compare_116 dX12_compare_117 (by decide) (by omega) (by omega) (fun c116 => ?_) (fun c116 => ?_)
                  · refine mm_iconst (v := nI 1) dX12_compare_131 (by decide) ?_
                    refine mm_istore (L' := [(18, .int (nI (1))), (25, .long (lN ((r1) % (s1)))), (23, .long (lN ((p1) % (q1)))), (21, .long (lN ((r1) / (s1)))), (19, .long (lN ((p1) / (q1)))), (17, .int (nI (1))), (16, .int (Int32.ofInt e)), (14, .long (lN (s1))), (12, .long (lN (r1))), (10, .long (lN (q1))), (8, .long (lN (p1))), (0, .long (lN (p))), (2, .long (lN (q))), (4, .long (lN (r))), (6, .long (lN (s)))]) dX12_compare_132 (by decide) rfl ?_
                    refine mm_lload dX12_compare_134 4 rfl ?_
                    refine mm_lload dX12_compare_136 3 rfl ?_
                    refine mn_lc_le (tgt := 146) dX12_compare_138 dX12_compare_139 (by decide) (by omega) (by omega) (fun c138 => ?_) (fun c138 => ?_)
                    · refine mm_iload dX12_compare_146 0 rfl ?_
                      refine mm_istore (L' := [(18, .int (nI (1))), (25, .long (lN ((r1) % (s1)))), (23, .long (lN ((p1) % (q1)))), (21, .long (lN ((r1) / (s1)))), (19, .long (lN ((p1) / (q1)))), (17, .int (nI (1))), (16, .int (Int32.ofInt e)), (14, .long (lN (s1))), (12, .long (lN (r1))), (10, .long (lN (q1))), (8, .long (lN (p1))), (0, .long (lN (p))), (2, .long (lN (q))), (4, .long (lN (r))), (6, .long (lN (s)))]) dX12_compare_148 (by decide) rfl ?_
                      refine mm_iconst (v := nI 0) dX12_compare_150 (by decide) ?_
                      refine mm_istore (L' := [(17, .int (nI (0))), (18, .int (nI (1))), (25, .long (lN ((r1) % (s1)))), (23, .long (lN ((p1) % (q1)))), (21, .long (lN ((r1) / (s1)))), (19, .long (lN ((p1) / (q1)))), (16, .int (Int32.ofInt e)), (14, .long (lN (s1))), (12, .long (lN (r1))), (10, .long (lN (q1))), (8, .long (lN (p1))), (0, .long (lN (p))), (2, .long (lN (q))), (4, .long (lN (r))), (6, .long (lN (s)))]) dX12_compare_151 (by decide) rfl ?_
                      refine mm_goto (tgt := 177) dX12_compare_153 (by decide) ?_
                      refine mm_goto (tgt := 23) dX12_compare_177 (by decide) ?_
                      refine mm_iload dX12_compare_23 0 rfl ?_
                      refine mn_if_eq (tgt := 180) dX12_compare_25 (by decide) (by omega) (fun c25 => ?_) (fun c25 => ?_)
                      · have ee : cm3 (p1 * s1) (r1 * q1) = 1 := by
                          by_cases hxy : p1 / q1 = r1 / s1
                          · rw [cmq_l hxy, cmq_0 hq0 hs0 (by omega)]; first | exact cm3_lt (by omega) | exact cm3_gt (by omega) | exact cm3_e (by omega)
                          · rw [cmq_w hq0 hs0 hxy]; first | exact cm3_lt (by omega) | exact cm3_gt (by omega) | exact cm3_e (by omega)
                        refine mm_iload dX12_compare_180 6 rfl ?_
                        refine mm_iload dX12_compare_182 1 rfl ?_
                        refine mn_top (u := .int (Int32.ofInt (1))) (congrArg Value.int (by decide)) ?_
                        refine mm_imul dX12_compare_184 ?_
                        exact mm_iret dX12_compare_185 rfl ⟨rfl, by rw [i32_mul, ← he, ee]⟩
                      · exact absurd rfl c25
                    · refine mm_iconst (v := nI 1) dX12_compare_142 (by decide) ?_
                      refine mm_goto (tgt := 148) dX12_compare_143 (by decide) ?_
                      refine mm_istore (L' := [(18, .int (nI (1))), (25, .long (lN ((r1) % (s1)))), (23, .long (lN ((p1) % (q1)))), (21, .long (lN ((r1) / (s1)))), (19, .long (lN ((p1) / (q1)))), (17, .int (nI (1))), (16, .int (Int32.ofInt e)), (14, .long (lN (s1))), (12, .long (lN (r1))), (10, .long (lN (q1))), (8, .long (lN (p1))), (0, .long (lN (p))), (2, .long (lN (q))), (4, .long (lN (r))), (6, .long (lN (s)))]) dX12_compare_148 (by decide) rfl ?_
                      refine mm_iconst (v := nI 0) dX12_compare_150 (by decide) ?_
                      refine mm_istore (L' := [(17, .int (nI (0))), (18, .int (nI (1))), (25, .long (lN ((r1) % (s1)))), (23, .long (lN ((p1) % (q1)))), (21, .long (lN ((r1) / (s1)))), (19, .long (lN ((p1) / (q1)))), (16, .int (Int32.ofInt e)), (14, .long (lN (s1))), (12, .long (lN (r1))), (10, .long (lN (q1))), (8, .long (lN (p1))), (0, .long (lN (p))), (2, .long (lN (q))), (4, .long (lN (r))), (6, .long (lN (s)))]) dX12_compare_151 (by decide) rfl ?_
                      refine mm_goto (tgt := 177) dX12_compare_153 (by decide) ?_
                      refine mm_goto (tgt := 23) dX12_compare_177 (by decide) ?_
                      refine mm_iload dX12_compare_23 0 rfl ?_
                      refine mn_if_eq (tgt := 180) dX12_compare_25 (by decide) (by omega) (fun c25 => ?_) (fun c25 => ?_)
                      · have ee : cm3 (p1 * s1) (r1 * q1) = 1 := by
                          by_cases hxy : p1 / q1 = r1 / s1
                          · rw [cmq_l hxy, cmq_0 hq0 hs0 (by omega)]; first | exact cm3_lt (by omega) | exact cm3_gt (by omega) | exact cm3_e (by omega)
                          · rw [cmq_w hq0 hs0 hxy]; first | exact cm3_lt (by omega) | exact cm3_gt (by omega) | exact cm3_e (by omega)
                        refine mm_iload dX12_compare_180 6 rfl ?_
                        refine mm_iload dX12_compare_182 1 rfl ?_
                        refine mn_top (u := .int (Int32.ofInt (1))) (congrArg Value.int (by decide)) ?_
                        refine mm_imul dX12_compare_184 ?_
                        exact mm_iret dX12_compare_185 rfl ⟨rfl, by rw [i32_mul, ← he, ee]⟩
                      · exact absurd rfl c25
                  · refine mm_lload dX12_compare_120 1 rfl ?_
                    refine mm_lconst (v := lN 0) dX12_compare_122 (by decide) ?_
                    refine mn_lc_ne (tgt := 131) dX12_compare_123 dX12_compare_124 (by decide) (by omega) (by omega) (fun c123 => ?_) (fun c123 => ?_)
                    · refine mm_iconst (v := nI 1) dX12_compare_131 (by decide) ?_
                      refine mm_istore (L' := [(18, .int (nI (1))), (25, .long (lN ((r1) % (s1)))), (23, .long (lN ((p1) % (q1)))), (21, .long (lN ((r1) / (s1)))), (19, .long (lN ((p1) / (q1)))), (17, .int (nI (1))), (16, .int (Int32.ofInt e)), (14, .long (lN (s1))), (12, .long (lN (r1))), (10, .long (lN (q1))), (8, .long (lN (p1))), (0, .long (lN (p))), (2, .long (lN (q))), (4, .long (lN (r))), (6, .long (lN (s)))]) dX12_compare_132 (by decide) rfl ?_
                      refine mm_lload dX12_compare_134 4 rfl ?_
                      refine mm_lload dX12_compare_136 3 rfl ?_
                      refine mn_lc_le (tgt := 146) dX12_compare_138 dX12_compare_139 (by decide) (by omega) (by omega) (fun c138 => ?_) (fun c138 => ?_)
                      · refine mm_iload dX12_compare_146 0 rfl ?_
                        refine mm_istore (L' := [(18, .int (nI (1))), (25, .long (lN ((r1) % (s1)))), (23, .long (lN ((p1) % (q1)))), (21, .long (lN ((r1) / (s1)))), (19, .long (lN ((p1) / (q1)))), (17, .int (nI (1))), (16, .int (Int32.ofInt e)), (14, .long (lN (s1))), (12, .long (lN (r1))), (10, .long (lN (q1))), (8, .long (lN (p1))), (0, .long (lN (p))), (2, .long (lN (q))), (4, .long (lN (r))), (6, .long (lN (s)))]) dX12_compare_148 (by decide) rfl ?_
                        refine mm_iconst (v := nI 0) dX12_compare_150 (by decide) ?_
                        refine mm_istore (L' := [(17, .int (nI (0))), (18, .int (nI (1))), (25, .long (lN ((r1) % (s1)))), (23, .long (lN ((p1) % (q1)))), (21, .long (lN ((r1) / (s1)))), (19, .long (lN ((p1) / (q1)))), (16, .int (Int32.ofInt e)), (14, .long (lN (s1))), (12, .long (lN (r1))), (10, .long (lN (q1))), (8, .long (lN (p1))), (0, .long (lN (p))), (2, .long (lN (q))), (4, .long (lN (r))), (6, .long (lN (s)))]) dX12_compare_151 (by decide) rfl ?_
                        refine mm_goto (tgt := 177) dX12_compare_153 (by decide) ?_
                        refine mm_goto (tgt := 23) dX12_compare_177 (by decide) ?_
                        refine mm_iload dX12_compare_23 0 rfl ?_
                        refine mn_if_eq (tgt := 180) dX12_compare_25 (by decide) (by omega) (fun c25 => ?_) (fun c25 => ?_)
                        · have ee : cm3 (p1 * s1) (r1 * q1) = 1 := by
                            by_cases hxy : p1 / q1 = r1 / s1
                            · rw [cmq_l hxy, cmq_0 hq0 hs0 (by omega)]; first | exact cm3_lt (by omega) | exact cm3_gt (by omega) | exact cm3_e (by omega)
                            · rw [cmq_w hq0 hs0 hxy]; first | exact cm3_lt (by omega) | exact cm3_gt (by omega) | exact cm3_e (by omega)
                          refine mm_iload dX12_compare_180 6 rfl ?_
                          refine mm_iload dX12_compare_182 1 rfl ?_
                          refine mn_top (u := .int (Int32.ofInt (1))) (congrArg Value.int (by decide)) ?_
                          refine mm_imul dX12_compare_184 ?_
                          exact mm_iret dX12_compare_185 rfl ⟨rfl, by rw [i32_mul, ← he, ee]⟩
                        · exact absurd rfl c25
                      · refine mm_iconst (v := nI 1) dX12_compare_142 (by decide) ?_
                        refine mm_goto (tgt := 148) dX12_compare_143 (by decide) ?_
                        refine mm_istore (L' := [(18, .int (nI (1))), (25, .long (lN ((r1) % (s1)))), (23, .long (lN ((p1) % (q1)))), (21, .long (lN ((r1) / (s1)))), (19, .long (lN ((p1) / (q1)))), (17, .int (nI (1))), (16, .int (Int32.ofInt e)), (14, .long (lN (s1))), (12, .long (lN (r1))), (10, .long (lN (q1))), (8, .long (lN (p1))), (0, .long (lN (p))), (2, .long (lN (q))), (4, .long (lN (r))), (6, .long (lN (s)))]) dX12_compare_148 (by decide) rfl ?_
                        refine mm_iconst (v := nI 0) dX12_compare_150 (by decide) ?_
                        refine mm_istore (L' := [(17, .int (nI (0))), (18, .int (nI (1))), (25, .long (lN ((r1) % (s1)))), (23, .long (lN ((p1) % (q1)))), (21, .long (lN ((r1) / (s1)))), (19, .long (lN ((p1) / (q1)))), (16, .int (Int32.ofInt e)), (14, .long (lN (s1))), (12, .long (lN (r1))), (10, .long (lN (q1))), (8, .long (lN (p1))), (0, .long (lN (p))), (2, .long (lN (q))), (4, .long (lN (r))), (6, .long (lN (s)))]) dX12_compare_151 (by decide) rfl ?_
                        refine mm_goto (tgt := 177) dX12_compare_153 (by decide) ?_
                        refine mm_goto (tgt := 23) dX12_compare_177 (by decide) ?_
                        refine mm_iload dX12_compare_23 0 rfl ?_
                        refine mn_if_eq (tgt := 180) dX12_compare_25 (by decide) (by omega) (fun c25 => ?_) (fun c25 => ?_)
                        · have ee : cm3 (p1 * s1) (r1 * q1) = 1 := by
                            by_cases hxy : p1 / q1 = r1 / s1
                            · rw [cmq_l hxy, cmq_0 hq0 hs0 (by omega)]; first | exact cm3_lt (by omega) | exact cm3_gt (by omega) | exact cm3_e (by omega)
                            · rw [cmq_w hq0 hs0 hxy]; first | exact cm3_lt (by omega) | exact cm3_gt (by omega) | exact cm3_e (by omega)
                          refine mm_iload dX12_compare_180 6 rfl ?_
                          refine mm_iload dX12_compare_182 1 rfl ?_
                          refine mn_top (u := .int (Int32.ofInt (1))) (congrArg Value.int (by decide)) ?_
                          refine mm_imul dX12_compare_184 ?_
                          exact mm_iret dX12_compare_185 rfl ⟨rfl, by rw [i32_mul, ← he, ee]⟩
                        · exact absurd rfl c25
                    · refine mm_iconst (v := nI 0) dX12_compare_127 (by decide) ?_
                      refine mm_goto (tgt := 132) dX12_compare_128 (by decide) ?_
                      refine mm_istore (L' := [(18, .int (nI (0))), (25, .long (lN ((r1) % (s1)))), (23, .long (lN ((p1) % (q1)))), (21, .long (lN ((r1) / (s1)))), (19, .long (lN ((p1) / (q1)))), (17, .int (nI (1))), (16, .int (Int32.ofInt e)), (14, .long (lN (s1))), (12, .long (lN (r1))), (10, .long (lN (q1))), (8, .long (lN (p1))), (0, .long (lN (p))), (2, .long (lN (q))), (4, .long (lN (r))), (6, .long (lN (s)))]) dX12_compare_132 (by decide) rfl ?_
                      refine mm_lload dX12_compare_134 4 rfl ?_
                      refine mm_lload dX12_compare_136 3 rfl ?_
                      refine mn_lc_le (tgt := 146) dX12_compare_138 dX12_compare_139 (by decide) (by omega) (by omega) (fun c138 => ?_) (fun c138 => ?_)
                      · refine mm_iload dX12_compare_146 0 rfl ?_
                        refine mm_istore (L' := [(18, .int (nI (0))), (25, .long (lN ((r1) % (s1)))), (23, .long (lN ((p1) % (q1)))), (21, .long (lN ((r1) / (s1)))), (19, .long (lN ((p1) / (q1)))), (17, .int (nI (1))), (16, .int (Int32.ofInt e)), (14, .long (lN (s1))), (12, .long (lN (r1))), (10, .long (lN (q1))), (8, .long (lN (p1))), (0, .long (lN (p))), (2, .long (lN (q))), (4, .long (lN (r))), (6, .long (lN (s)))]) dX12_compare_148 (by decide) rfl ?_
                        refine mm_iconst (v := nI 0) dX12_compare_150 (by decide) ?_
                        refine mm_istore (L' := [(17, .int (nI (0))), (18, .int (nI (0))), (25, .long (lN ((r1) % (s1)))), (23, .long (lN ((p1) % (q1)))), (21, .long (lN ((r1) / (s1)))), (19, .long (lN ((p1) / (q1)))), (16, .int (Int32.ofInt e)), (14, .long (lN (s1))), (12, .long (lN (r1))), (10, .long (lN (q1))), (8, .long (lN (p1))), (0, .long (lN (p))), (2, .long (lN (q))), (4, .long (lN (r))), (6, .long (lN (s)))]) dX12_compare_151 (by decide) rfl ?_
                        refine mm_goto (tgt := 177) dX12_compare_153 (by decide) ?_
                        refine mm_goto (tgt := 23) dX12_compare_177 (by decide) ?_
                        refine mm_iload dX12_compare_23 0 rfl ?_
                        refine mn_if_eq (tgt := 180) dX12_compare_25 (by decide) (by omega) (fun c25 => ?_) (fun c25 => ?_)
                        · have ee : cm3 (p1 * s1) (r1 * q1) = 0 := by
                            by_cases hxy : p1 / q1 = r1 / s1
                            · rw [cmq_l hxy, cmq_0 hq0 hs0 (by omega)]; first | exact cm3_lt (by omega) | exact cm3_gt (by omega) | exact cm3_e (by omega)
                            · rw [cmq_w hq0 hs0 hxy]; first | exact cm3_lt (by omega) | exact cm3_gt (by omega) | exact cm3_e (by omega)
                          refine mm_iload dX12_compare_180 6 rfl ?_
                          refine mm_iload dX12_compare_182 1 rfl ?_
                          refine mn_top (u := .int (Int32.ofInt (0))) (congrArg Value.int (by decide)) ?_
                          refine mm_imul dX12_compare_184 ?_
                          exact mm_iret dX12_compare_185 rfl ⟨rfl, by rw [i32_mul, ← he, ee]⟩
                        · exact absurd rfl c25
                      · refine mm_iconst (v := nI 1) dX12_compare_142 (by decide) ?_
                        refine mm_goto (tgt := 148) dX12_compare_143 (by decide) ?_
                        refine mm_istore (L' := [(18, .int (nI (1))), (25, .long (lN ((r1) % (s1)))), (23, .long (lN ((p1) % (q1)))), (21, .long (lN ((r1) / (s1)))), (19, .long (lN ((p1) / (q1)))), (17, .int (nI (1))), (16, .int (Int32.ofInt e)), (14, .long (lN (s1))), (12, .long (lN (r1))), (10, .long (lN (q1))), (8, .long (lN (p1))), (0, .long (lN (p))), (2, .long (lN (q))), (4, .long (lN (r))), (6, .long (lN (s)))]) dX12_compare_148 (by decide) rfl ?_
                        refine mm_iconst (v := nI 0) dX12_compare_150 (by decide) ?_
                        refine mm_istore (L' := [(17, .int (nI (0))), (18, .int (nI (1))), (25, .long (lN ((r1) % (s1)))), (23, .long (lN ((p1) % (q1)))), (21, .long (lN ((r1) / (s1)))), (19, .long (lN ((p1) / (q1)))), (16, .int (Int32.ofInt e)), (14, .long (lN (s1))), (12, .long (lN (r1))), (10, .long (lN (q1))), (8, .long (lN (p1))), (0, .long (lN (p))), (2, .long (lN (q))), (4, .long (lN (r))), (6, .long (lN (s)))]) dX12_compare_151 (by decide) rfl ?_
                        refine mm_goto (tgt := 177) dX12_compare_153 (by decide) ?_
                        refine mm_goto (tgt := 23) dX12_compare_177 (by decide) ?_
                        refine mm_iload dX12_compare_23 0 rfl ?_
                        refine mn_if_eq (tgt := 180) dX12_compare_25 (by decide) (by omega) (fun c25 => ?_) (fun c25 => ?_)
                        · have ee : cm3 (p1 * s1) (r1 * q1) = 1 := by
                            by_cases hxy : p1 / q1 = r1 / s1
                            · rw [cmq_l hxy, cmq_0 hq0 hs0 (by omega)]; first | exact cm3_lt (by omega) | exact cm3_gt (by omega) | exact cm3_e (by omega)
                            · rw [cmq_w hq0 hs0 hxy]; first | exact cm3_lt (by omega) | exact cm3_gt (by omega) | exact cm3_e (by omega)
                          refine mm_iload dX12_compare_180 6 rfl ?_
                          refine mm_iload dX12_compare_182 1 rfl ?_
                          refine mn_top (u := .int (Int32.ofInt (1))) (congrArg Value.int (by decide)) ?_
                          refine mm_imul dX12_compare_184 ?_
                          exact mm_iret dX12_compare_185 rfl ⟨rfl, by rw [i32_mul, ← he, ee]⟩
                        · exact absurd rfl c25
                · refine mm_iconst (v := (-1)) dX12_compare_108 (by decide) ?_
                  refine mm_goto (tgt := 132) dX12_compare_109 (by decide) ?_
                  refine mm_istore (L' := [(18, .int ((-1))), (25, .long (lN ((r1) % (s1)))), (23, .long (lN ((p1) % (q1)))), (21, .long (lN ((r1) / (s1)))), (19, .long (lN ((p1) / (q1)))), (17, .int (nI (1))), (16, .int (Int32.ofInt e)), (14, .long (lN (s1))), (12, .long (lN (r1))), (10, .long (lN (q1))), (8, .long (lN (p1))), (0, .long (lN (p))), (2, .long (lN (q))), (4, .long (lN (r))), (6, .long (lN (s)))]) dX12_compare_132 (by decide) rfl ?_
                  refine mm_lload dX12_compare_134 4 rfl ?_
                  refine mm_lload dX12_compare_136 3 rfl ?_
                  refine mn_lc_le (tgt := 146) dX12_compare_138 dX12_compare_139 (by decide) (by omega) (by omega) (fun c138 => ?_) (fun c138 => ?_)
                  · refine mm_iload dX12_compare_146 0 rfl ?_
                    refine mm_istore (L' := [(18, .int ((-1))), (25, .long (lN ((r1) % (s1)))), (23, .long (lN ((p1) % (q1)))), (21, .long (lN ((r1) / (s1)))), (19, .long (lN ((p1) / (q1)))), (17, .int (nI (1))), (16, .int (Int32.ofInt e)), (14, .long (lN (s1))), (12, .long (lN (r1))), (10, .long (lN (q1))), (8, .long (lN (p1))), (0, .long (lN (p))), (2, .long (lN (q))), (4, .long (lN (r))), (6, .long (lN (s)))]) dX12_compare_148 (by decide) rfl ?_
                    refine mm_iconst (v := nI 0) dX12_compare_150 (by decide) ?_
                    refine mm_istore (L' := [(17, .int (nI (0))), (18, .int ((-1))), (25, .long (lN ((r1) % (s1)))), (23, .long (lN ((p1) % (q1)))), (21, .long (lN ((r1) / (s1)))), (19, .long (lN ((p1) / (q1)))), (16, .int (Int32.ofInt e)), (14, .long (lN (s1))), (12, .long (lN (r1))), (10, .long (lN (q1))), (8, .long (lN (p1))), (0, .long (lN (p))), (2, .long (lN (q))), (4, .long (lN (r))), (6, .long (lN (s)))]) dX12_compare_151 (by decide) rfl ?_
                    refine mm_goto (tgt := 177) dX12_compare_153 (by decide) ?_
                    refine mm_goto (tgt := 23) dX12_compare_177 (by decide) ?_
                    refine mm_iload dX12_compare_23 0 rfl ?_
                    refine mn_if_eq (tgt := 180) dX12_compare_25 (by decide) (by omega) (fun c25 => ?_) (fun c25 => ?_)
                    · have ee : cm3 (p1 * s1) (r1 * q1) = -1 := by
                        by_cases hxy : p1 / q1 = r1 / s1
                        · rw [cmq_l hxy, cmq_0 hq0 hs0 (by omega)]; first | exact cm3_lt (by omega) | exact cm3_gt (by omega) | exact cm3_e (by omega)
                        · rw [cmq_w hq0 hs0 hxy]; first | exact cm3_lt (by omega) | exact cm3_gt (by omega) | exact cm3_e (by omega)
                      refine mm_iload dX12_compare_180 6 rfl ?_
                      refine mm_iload dX12_compare_182 1 rfl ?_
                      refine mn_top (u := .int (Int32.ofInt (-1))) (congrArg Value.int (by decide)) ?_
                      refine mm_imul dX12_compare_184 ?_
                      exact mm_iret dX12_compare_185 rfl ⟨rfl, by rw [i32_mul, ← he, ee]⟩
                    · exact absurd rfl c25
                  · refine mm_iconst (v := nI 1) dX12_compare_142 (by decide) ?_
                    refine mm_goto (tgt := 148) dX12_compare_143 (by decide) ?_
                    refine mm_istore (L' := [(18, .int (nI (1))), (25, .long (lN ((r1) % (s1)))), (23, .long (lN ((p1) % (q1)))), (21, .long (lN ((r1) / (s1)))), (19, .long (lN ((p1) / (q1)))), (17, .int (nI (1))), (16, .int (Int32.ofInt e)), (14, .long (lN (s1))), (12, .long (lN (r1))), (10, .long (lN (q1))), (8, .long (lN (p1))), (0, .long (lN (p))), (2, .long (lN (q))), (4, .long (lN (r))), (6, .long (lN (s)))]) dX12_compare_148 (by decide) rfl ?_
                    refine mm_iconst (v := nI 0) dX12_compare_150 (by decide) ?_
                    refine mm_istore (L' := [(17, .int (nI (0))), (18, .int (nI (1))), (25, .long (lN ((r1) % (s1)))), (23, .long (lN ((p1) % (q1)))), (21, .long (lN ((r1) / (s1)))), (19, .long (lN ((p1) / (q1)))), (16, .int (Int32.ofInt e)), (14, .long (lN (s1))), (12, .long (lN (r1))), (10, .long (lN (q1))), (8, .long (lN (p1))), (0, .long (lN (p))), (2, .long (lN (q))), (4, .long (lN (r))), (6, .long (lN (s)))]) dX12_compare_151 (by decide) rfl ?_
                    refine mm_goto (tgt := 177) dX12_compare_153 (by decide) ?_
                    refine mm_goto (tgt := 23) dX12_compare_177 (by decide) ?_
                    refine mm_iload dX12_compare_23 0 rfl ?_
                    refine mn_if_eq (tgt := 180) dX12_compare_25 (by decide) (by omega) (fun c25 => ?_) (fun c25 => ?_)
                    · have ee : cm3 (p1 * s1) (r1 * q1) = 1 := by
                        by_cases hxy : p1 / q1 = r1 / s1
                        · rw [cmq_l hxy, cmq_0 hq0 hs0 (by omega)]; first | exact cm3_lt (by omega) | exact cm3_gt (by omega) | exact cm3_e (by omega)
                        · rw [cmq_w hq0 hs0 hxy]; first | exact cm3_lt (by omega) | exact cm3_gt (by omega) | exact cm3_e (by omega)
                      refine mm_iload dX12_compare_180 6 rfl ?_
                      refine mm_iload dX12_compare_182 1 rfl ?_
                      refine mn_top (u := .int (Int32.ofInt (1))) (congrArg Value.int (by decide)) ?_
                      refine mm_imul dX12_compare_184 ?_
                      exact mm_iret dX12_compare_185 rfl ⟨rfl, by rw [i32_mul, ← he, ee]⟩
                    · exact absurd rfl c25
        · refine mm_lload dX12_compare_64 1 rfl ?_
          refine mm_lconst (v := lN 0) dX12_compare_66 (by decide) ?_
          refine mn_lc_eq (tgt := 78) dX12_compare_67 dX12_compare_68 (by decide) (by omega) (by omega) (fun c67 => ?_) (fun c67 => ?_)
          · refine mm_lload dX12_compare_78 3 rfl ?_
            refine mm_lload dX12_compare_80 2 rfl ?_
            refine mn_lc_lt (tgt := 108) dX12_compare_82 dX12_compare_83 (by decide) (by omega) (by omega) (fun c82 => ?_) (fun c82 => ?_)
            · refine mm_iconst (v := (-1)) dX12_compare_108 (by decide) ?_
              refine mm_goto (tgt := 132) dX12_compare_109 (by decide) ?_
              refine mm_istore (L' := [(18, .int ((-1))), (25, .long (lN ((r1) % (s1)))), (23, .long (lN ((p1) % (q1)))), (21, .long (lN ((r1) / (s1)))), (19, .long (lN ((p1) / (q1)))), (17, .int (nI (1))), (16, .int (Int32.ofInt e)), (14, .long (lN (s1))), (12, .long (lN (r1))), (10, .long (lN (q1))), (8, .long (lN (p1))), (0, .long (lN (p))), (2, .long (lN (q))), (4, .long (lN (r))), (6, .long (lN (s)))]) dX12_compare_132 (by decide) rfl ?_
              refine mm_lload dX12_compare_134 4 rfl ?_
              refine mm_lload dX12_compare_136 3 rfl ?_
              refine mn_lc_le (tgt := 146) dX12_compare_138 dX12_compare_139 (by decide) (by omega) (by omega) (fun c138 => ?_) (fun c138 => ?_)
              · refine mm_iload dX12_compare_146 0 rfl ?_
                refine mm_istore (L' := [(18, .int ((-1))), (25, .long (lN ((r1) % (s1)))), (23, .long (lN ((p1) % (q1)))), (21, .long (lN ((r1) / (s1)))), (19, .long (lN ((p1) / (q1)))), (17, .int (nI (1))), (16, .int (Int32.ofInt e)), (14, .long (lN (s1))), (12, .long (lN (r1))), (10, .long (lN (q1))), (8, .long (lN (p1))), (0, .long (lN (p))), (2, .long (lN (q))), (4, .long (lN (r))), (6, .long (lN (s)))]) dX12_compare_148 (by decide) rfl ?_
                refine mm_iconst (v := nI 0) dX12_compare_150 (by decide) ?_
                refine mm_istore (L' := [(17, .int (nI (0))), (18, .int ((-1))), (25, .long (lN ((r1) % (s1)))), (23, .long (lN ((p1) % (q1)))), (21, .long (lN ((r1) / (s1)))), (19, .long (lN ((p1) / (q1)))), (16, .int (Int32.ofInt e)), (14, .long (lN (s1))), (12, .long (lN (r1))), (10, .long (lN (q1))), (8, .long (lN (p1))), (0, .long (lN (p))), (2, .long (lN (q))), (4, .long (lN (r))), (6, .long (lN (s)))]) dX12_compare_151 (by decide) rfl ?_
                refine mm_goto (tgt := 177) dX12_compare_153 (by decide) ?_
                refine mm_goto (tgt := 23) dX12_compare_177 (by decide) ?_
                refine mm_iload dX12_compare_23 0 rfl ?_
                refine mn_if_eq (tgt := 180) dX12_compare_25 (by decide) (by omega) (fun c25 => ?_) (fun c25 => ?_)
                · have ee : cm3 (p1 * s1) (r1 * q1) = -1 := by
                    by_cases hxy : p1 / q1 = r1 / s1
                    · rw [cmq_l hxy, cmq_0 hq0 hs0 (by omega)]; first | exact cm3_lt (by omega) | exact cm3_gt (by omega) | exact cm3_e (by omega)
                    · rw [cmq_w hq0 hs0 hxy]; first | exact cm3_lt (by omega) | exact cm3_gt (by omega) | exact cm3_e (by omega)
                  refine mm_iload dX12_compare_180 6 rfl ?_
                  refine mm_iload dX12_compare_182 1 rfl ?_
                  refine mn_top (u := .int (Int32.ofInt (-1))) (congrArg Value.int (by decide)) ?_
                  refine mm_imul dX12_compare_184 ?_
                  exact mm_iret dX12_compare_185 rfl ⟨rfl, by rw [i32_mul, ← he, ee]⟩
                · exact absurd rfl c25
              · refine mm_iconst (v := nI 1) dX12_compare_142 (by decide) ?_
                refine mm_goto (tgt := 148) dX12_compare_143 (by decide) ?_
                refine mm_istore (L' := [(18, .int (nI (1))), (25, .long (lN ((r1) % (s1)))), (23, .long (lN ((p1) % (q1)))), (21, .long (lN ((r1) / (s1)))), (19, .long (lN ((p1) / (q1)))), (17, .int (nI (1))), (16, .int (Int32.ofInt e)), (14, .long (lN (s1))), (12, .long (lN (r1))), (10, .long (lN (q1))), (8, .long (lN (p1))), (0, .long (lN (p))), (2, .long (lN (q))), (4, .long (lN (r))), (6, .long (lN (s)))]) dX12_compare_148 (by decide) rfl ?_
                refine mm_iconst (v := nI 0) dX12_compare_150 (by decide) ?_
                refine mm_istore (L' := [(17, .int (nI (0))), (18, .int (nI (1))), (25, .long (lN ((r1) % (s1)))), (23, .long (lN ((p1) % (q1)))), (21, .long (lN ((r1) / (s1)))), (19, .long (lN ((p1) / (q1)))), (16, .int (Int32.ofInt e)), (14, .long (lN (s1))), (12, .long (lN (r1))), (10, .long (lN (q1))), (8, .long (lN (p1))), (0, .long (lN (p))), (2, .long (lN (q))), (4, .long (lN (r))), (6, .long (lN (s)))]) dX12_compare_151 (by decide) rfl ?_
                refine mm_goto (tgt := 177) dX12_compare_153 (by decide) ?_
                refine mm_goto (tgt := 23) dX12_compare_177 (by decide) ?_
                refine mm_iload dX12_compare_23 0 rfl ?_
                refine mn_if_eq (tgt := 180) dX12_compare_25 (by decide) (by omega) (fun c25 => ?_) (fun c25 => ?_)
                · have ee : cm3 (p1 * s1) (r1 * q1) = 1 := by
                    by_cases hxy : p1 / q1 = r1 / s1
                    · rw [cmq_l hxy, cmq_0 hq0 hs0 (by omega)]; first | exact cm3_lt (by omega) | exact cm3_gt (by omega) | exact cm3_e (by omega)
                    · rw [cmq_w hq0 hs0 hxy]; first | exact cm3_lt (by omega) | exact cm3_gt (by omega) | exact cm3_e (by omega)
                  refine mm_iload dX12_compare_180 6 rfl ?_
                  refine mm_iload dX12_compare_182 1 rfl ?_
                  refine mn_top (u := .int (Int32.ofInt (1))) (congrArg Value.int (by decide)) ?_
                  refine mm_imul dX12_compare_184 ?_
                  exact mm_iret dX12_compare_185 rfl ⟨rfl, by rw [i32_mul, ← he, ee]⟩
                · exact absurd rfl c25
            · refine mm_lload dX12_compare_86 3 rfl ?_
              refine mm_lload dX12_compare_88 2 rfl ?_
              refine mn_lc_ne (tgt := 112) dX12_compare_90 dX12_compare_91 (by decide) (by omega) (by omega) (fun c90 => ?_) (fun c90 => ?_)
              · refine mm_lload dX12_compare_112 3 rfl ?_
                refine mm_lload dX12_compare_114 2 rfl ?_
                refine mn_lc_ne (tgt := 131) dX12_compare_116 dX12_compare_117 (by decide) (by omega) (by omega) (fun c116 => ?_) (fun c116 => ?_)
                · refine mm_iconst (v := nI 1) dX12_compare_131 (by decide) ?_
                  refine mm_istore (L' := [(18, .int (nI (1))), (25, .long (lN ((r1) % (s1)))), (23, .long (lN ((p1) % (q1)))), (21, .long (lN ((r1) / (s1)))), (19, .long (lN ((p1) / (q1)))), (17, .int (nI (1))), (16, .int (Int32.ofInt e)), (14, .long (lN (s1))), (12, .long (lN (r1))), (10, .long (lN (q1))), (8, .long (lN (p1))), (0, .long (lN (p))), (2, .long (lN (q))), (4, .long (lN (r))), (6, .long (lN (s)))]) dX12_compare_132 (by decide) rfl ?_
                  refine mm_lload dX12_compare_134 4 rfl ?_
                  refine mm_lload dX12_compare_136 3 rfl ?_
                  refine mn_lc_le (tgt := 146) dX12_compare_138 dX12_compare_139 (by decide) (by omega) (by omega) (fun c138 => ?_) (fun c138 => ?_)
                  · refine mm_iload dX12_compare_146 0 rfl ?_
                    refine mm_istore (L' := [(18, .int (nI (1))), (25, .long (lN ((r1) % (s1)))), (23, .long (lN ((p1) % (q1)))), (21, .long (lN ((r1) / (s1)))), (19, .long (lN ((p1) / (q1)))), (17, .int (nI (1))), (16, .int (Int32.ofInt e)), (14, .long (lN (s1))), (12, .long (lN (r1))), (10, .long (lN (q1))), (8, .long (lN (p1))), (0, .long (lN (p))), (2, .long (lN (q))), (4, .long (lN (r))), (6, .long (lN (s)))]) dX12_compare_148 (by decide) rfl ?_
                    refine mm_iconst (v := nI 0) dX12_compare_150 (by decide) ?_
                    refine mm_istore (L' := [(17, .int (nI (0))), (18, .int (nI (1))), (25, .long (lN ((r1) % (s1)))), (23, .long (lN ((p1) % (q1)))), (21, .long (lN ((r1) / (s1)))), (19, .long (lN ((p1) / (q1)))), (16, .int (Int32.ofInt e)), (14, .long (lN (s1))), (12, .long (lN (r1))), (10, .long (lN (q1))), (8, .long (lN (p1))), (0, .long (lN (p))), (2, .long (lN (q))), (4, .long (lN (r))), (6, .long (lN (s)))]) dX12_compare_151 (by decide) rfl ?_
                    refine mm_goto (tgt := 177) dX12_compare_153 (by decide) ?_
                    refine mm_goto (tgt := 23) dX12_compare_177 (by decide) ?_
                    refine mm_iload dX12_compare_23 0 rfl ?_
                    refine mn_if_eq (tgt := 180) dX12_compare_25 (by decide) (by omega) (fun c25 => ?_) (fun c25 => ?_)
                    · have ee : cm3 (p1 * s1) (r1 * q1) = 1 := by
                        by_cases hxy : p1 / q1 = r1 / s1
                        · rw [cmq_l hxy, cmq_0 hq0 hs0 (by omega)]; first | exact cm3_lt (by omega) | exact cm3_gt (by omega) | exact cm3_e (by omega)
                        · rw [cmq_w hq0 hs0 hxy]; first | exact cm3_lt (by omega) | exact cm3_gt (by omega) | exact cm3_e (by omega)
                      refine mm_iload dX12_compare_180 6 rfl ?_
                      refine mm_iload dX12_compare_182 1 rfl ?_
                      refine mn_top (u := .int (Int32.ofInt (1))) (congrArg Value.int (by decide)) ?_
                      refine mm_imul dX12_compare_184 ?_
                      exact mm_iret dX12_compare_185 rfl ⟨rfl, by rw [i32_mul, ← he, ee]⟩
                    · exact absurd rfl c25
                  · refine mm_iconst (v := nI 1) dX12_compare_142 (by decide) ?_
                    refine mm_goto (tgt := 148) dX12_compare_143 (by decide) ?_
                    refine mm_istore (L' := [(18, .int (nI (1))), (25, .long (lN ((r1) % (s1)))), (23, .long (lN ((p1) % (q1)))), (21, .long (lN ((r1) / (s1)))), (19, .long (lN ((p1) / (q1)))), (17, .int (nI (1))), (16, .int (Int32.ofInt e)), (14, .long (lN (s1))), (12, .long (lN (r1))), (10, .long (lN (q1))), (8, .long (lN (p1))), (0, .long (lN (p))), (2, .long (lN (q))), (4, .long (lN (r))), (6, .long (lN (s)))]) dX12_compare_148 (by decide) rfl ?_
                    refine mm_iconst (v := nI 0) dX12_compare_150 (by decide) ?_
                    refine mm_istore (L' := [(17, .int (nI (0))), (18, .int (nI (1))), (25, .long (lN ((r1) % (s1)))), (23, .long (lN ((p1) % (q1)))), (21, .long (lN ((r1) / (s1)))), (19, .long (lN ((p1) / (q1)))), (16, .int (Int32.ofInt e)), (14, .long (lN (s1))), (12, .long (lN (r1))), (10, .long (lN (q1))), (8, .long (lN (p1))), (0, .long (lN (p))), (2, .long (lN (q))), (4, .long (lN (r))), (6, .long (lN (s)))]) dX12_compare_151 (by decide) rfl ?_
                    refine mm_goto (tgt := 177) dX12_compare_153 (by decide) ?_
                    refine mm_goto (tgt := 23) dX12_compare_177 (by decide) ?_
                    refine mm_iload dX12_compare_23 0 rfl ?_
                    refine mn_if_eq (tgt := 180) dX12_compare_25 (by decide) (by omega) (fun c25 => ?_) (fun c25 => ?_)
                    · have ee : cm3 (p1 * s1) (r1 * q1) = 1 := by
                        by_cases hxy : p1 / q1 = r1 / s1
                        · rw [cmq_l hxy, cmq_0 hq0 hs0 (by omega)]; first | exact cm3_lt (by omega) | exact cm3_gt (by omega) | exact cm3_e (by omega)
                        · rw [cmq_w hq0 hs0 hxy]; first | exact cm3_lt (by omega) | exact cm3_gt (by omega) | exact cm3_e (by omega)
                      refine mm_iload dX12_compare_180 6 rfl ?_
                      refine mm_iload dX12_compare_182 1 rfl ?_
                      refine mn_top (u := .int (Int32.ofInt (1))) (congrArg Value.int (by decide)) ?_
                      refine mm_imul dX12_compare_184 ?_
                      exact mm_iret dX12_compare_185 rfl ⟨rfl, by rw [i32_mul, ← he, ee]⟩
                    · exact absurd rfl c25
                · refine mm_lload dX12_compare_120 1 rfl ?_
                  refine mm_lconst (v := lN 0) dX12_compare_122 (by decide) ?_
                  refine mn_lc_ne (tgt := 131) dX12_compare_123 dX12_compare_124 (by decide) (by omega) (by omega) (fun c123 => ?_) (fun c123 => ?_)
                  · refine mm_iconst (v := nI 1) dX12_compare_131 (by decide) ?_
                    refine mm_istore (L' := [(18, .int (nI (1))), (25, .long (lN ((r1) % (s1)))), (23, .long (lN ((p1) % (q1)))), (21, .long (lN ((r1) / (s1)))), (19, .long (lN ((p1) / (q1)))), (17, .int (nI (1))), (16, .int (Int32.ofInt e)), (14, .long (lN (s1))), (12, .long (lN (r1))), (10, .long (lN (q1))), (8, .long (lN (p1))), (0, .long (lN (p))), (2, .long (lN (q))), (4, .long (lN (r))), (6, .long (lN (s)))]) dX12_compare_132 (by decide) rfl ?_
                    refine mm_lload dX12_compare_134 4 rfl ?_
                    refine mm_lload dX12_compare_136 3 rfl ?_
                    refine mn_lc_le (tgt := 146) dX12_compare_138 dX12_compare_139 (by decide) (by omega) (by omega) (fun c138 => ?_) (fun c138 => ?_)
                    · refine mm_iload dX12_compare_146 0 rfl ?_
                      refine mm_istore (L' := [(18, .int (nI (1))), (25, .long (lN ((r1) % (s1)))), (23, .long (lN ((p1) % (q1)))), (21, .long (lN ((r1) / (s1)))), (19, .long (lN ((p1) / (q1)))), (17, .int (nI (1))), (16, .int (Int32.ofInt e)), (14, .long (lN (s1))), (12, .long (lN (r1))), (10, .long (lN (q1))), (8, .long (lN (p1))), (0, .long (lN (p))), (2, .long (lN (q))), (4, .long (lN (r))), (6, .long (lN (s)))]) dX12_compare_148 (by decide) rfl ?_
                      refine mm_iconst (v := nI 0) dX12_compare_150 (by decide) ?_
                      refine mm_istore (L' := [(17, .int (nI (0))), (18, .int (nI (1))), (25, .long (lN ((r1) % (s1)))), (23, .long (lN ((p1) % (q1)))), (21, .long (lN ((r1) / (s1)))), (19, .long (lN ((p1) / (q1)))), (16, .int (Int32.ofInt e)), (14, .long (lN (s1))), (12, .long (lN (r1))), (10, .long (lN (q1))), (8, .long (lN (p1))), (0, .long (lN (p))), (2, .long (lN (q))), (4, .long (lN (r))), (6, .long (lN (s)))]) dX12_compare_151 (by decide) rfl ?_
                      refine mm_goto (tgt := 177) dX12_compare_153 (by decide) ?_
                      refine mm_goto (tgt := 23) dX12_compare_177 (by decide) ?_
                      refine mm_iload dX12_compare_23 0 rfl ?_
                      refine mn_if_eq (tgt := 180) dX12_compare_25 (by decide) (by omega) (fun c25 => ?_) (fun c25 => ?_)
                      · have ee : cm3 (p1 * s1) (r1 * q1) = 1 := by
                          by_cases hxy : p1 / q1 = r1 / s1
                          · rw [cmq_l hxy, cmq_0 hq0 hs0 (by omega)]; first | exact cm3_lt (by omega) | exact cm3_gt (by omega) | exact cm3_e (by omega)
                          · rw [cmq_w hq0 hs0 hxy]; first | exact cm3_lt (by omega) | exact cm3_gt (by omega) | exact cm3_e (by omega)
                        refine mm_iload dX12_compare_180 6 rfl ?_
                        refine mm_iload dX12_compare_182 1 rfl ?_
                        refine mn_top (u := .int (Int32.ofInt (1))) (congrArg Value.int (by decide)) ?_
                        refine mm_imul dX12_compare_184 ?_
                        exact mm_iret dX12_compare_185 rfl ⟨rfl, by rw [i32_mul, ← he, ee]⟩
                      · exact absurd rfl c25
                    · refine mm_iconst (v := nI 1) dX12_compare_142 (by decide) ?_
                      refine mm_goto (tgt := 148) dX12_compare_143 (by decide) ?_
                      refine mm_istore (L' := [(18, .int (nI (1))), (25, .long (lN ((r1) % (s1)))), (23, .long (lN ((p1) % (q1)))), (21, .long (lN ((r1) / (s1)))), (19, .long (lN ((p1) / (q1)))), (17, .int (nI (1))), (16, .int (Int32.ofInt e)), (14, .long (lN (s1))), (12, .long (lN (r1))), (10, .long (lN (q1))), (8, .long (lN (p1))), (0, .long (lN (p))), (2, .long (lN (q))), (4, .long (lN (r))), (6, .long (lN (s)))]) dX12_compare_148 (by decide) rfl ?_
                      refine mm_iconst (v := nI 0) dX12_compare_150 (by decide) ?_
                      refine mm_istore (L' := [(17, .int (nI (0))), (18, .int (nI (1))), (25, .long (lN ((r1) % (s1)))), (23, .long (lN ((p1) % (q1)))), (21, .long (lN ((r1) / (s1)))), (19, .long (lN ((p1) / (q1)))), (16, .int (Int32.ofInt e)), (14, .long (lN (s1))), (12, .long (lN (r1))), (10, .long (lN (q1))), (8, .long (lN (p1))), (0, .long (lN (p))), (2, .long (lN (q))), (4, .long (lN (r))), (6, .long (lN (s)))]) dX12_compare_151 (by decide) rfl ?_
                      refine mm_goto (tgt := 177) dX12_compare_153 (by decide) ?_
                      refine mm_goto (tgt := 23) dX12_compare_177 (by decide) ?_
                      refine mm_iload dX12_compare_23 0 rfl ?_
                      refine mn_if_eq (tgt := 180) dX12_compare_25 (by decide) (by omega) (fun c25 => ?_) (fun c25 => ?_)
                      · have ee : cm3 (p1 * s1) (r1 * q1) = 1 := by
                          by_cases hxy : p1 / q1 = r1 / s1
                          · rw [cmq_l hxy, cmq_0 hq0 hs0 (by omega)]; first | exact cm3_lt (by omega) | exact cm3_gt (by omega) | exact cm3_e (by omega)
                          · rw [cmq_w hq0 hs0 hxy]; first | exact cm3_lt (by omega) | exact cm3_gt (by omega) | exact cm3_e (by omega)
                        refine mm_iload dX12_compare_180 6 rfl ?_
                        refine mm_iload dX12_compare_182 1 rfl ?_
                        refine mn_top (u := .int (Int32.ofInt (1))) (congrArg Value.int (by decide)) ?_
                        refine mm_imul dX12_compare_184 ?_
                        exact mm_iret dX12_compare_185 rfl ⟨rfl, by rw [i32_mul, ← he, ee]⟩
                      · exact absurd rfl c25
                  · refine mm_iconst (v := nI 0) dX12_compare_127 (by decide) ?_
                    refine mm_goto (tgt := 132) dX12_compare_128 (by decide) ?_
                    refine mm_istore (L' := [(18, .int (nI (0))), (25, .long (lN ((r1) % (s1)))), (23, .long (lN ((p1) % (q1)))), (21, .long (lN ((r1) / (s1)))), (19, .long (lN ((p1) / (q1)))), (17, .int (nI (1))), (16, .int (Int32.ofInt e)), (14, .long (lN (s1))), (12, .long (lN (r1))), (10, .long (lN (q1))), (8, .long (lN (p1))), (0, .long (lN (p))), (2, .long (lN (q))), (4, .long (lN (r))), (6, .long (lN (s)))]) dX12_compare_132 (by decide) rfl ?_
                    refine mm_lload dX12_compare_134 4 rfl ?_
                    refine mm_lload dX12_compare_136 3 rfl ?_
                    refine mn_lc_le (tgt := 146) dX12_compare_138 dX12_compare_139 (by decide) (by omega) (by omega) (fun c138 => ?_) (fun c138 => ?_)
                    · refine mm_iload dX12_compare_146 0 rfl ?_
                      refine mm_istore (L' := [(18, .int (nI (0))), (25, .long (lN ((r1) % (s1)))), (23, .long (lN ((p1) % (q1)))), (21, .long (lN ((r1) / (s1)))), (19, .long (lN ((p1) / (q1)))), (17, .int (nI (1))), (16, .int (Int32.ofInt e)), (14, .long (lN (s1))), (12, .long (lN (r1))), (10, .long (lN (q1))), (8, .long (lN (p1))), (0, .long (lN (p))), (2, .long (lN (q))), (4, .long (lN (r))), (6, .long (lN (s)))]) dX12_compare_148 (by decide) rfl ?_
                      refine mm_iconst (v := nI 0) dX12_compare_150 (by decide) ?_
                      refine mm_istore (L' := [(17, .int (nI (0))), (18, .int (nI (0))), (25, .long (lN ((r1) % (s1)))), (23, .long (lN ((p1) % (q1)))), (21, .long (lN ((r1) / (s1)))), (19, .long (lN ((p1) / (q1)))), (16, .int (Int32.ofInt e)), (14, .long (lN (s1))), (12, .long (lN (r1))), (10, .long (lN (q1))), (8, .long (lN (p1))), (0, .long (lN (p))), (2, .long (lN (q))), (4, .long (lN (r))), (6, .long (lN (s)))]) dX12_compare_151 (by decide) rfl ?_
                      refine mm_goto (tgt := 177) dX12_compare_153 (by decide) ?_
                      refine mm_goto (tgt := 23) dX12_compare_177 (by decide) ?_
                      refine mm_iload dX12_compare_23 0 rfl ?_
                      refine mn_if_eq (tgt := 180) dX12_compare_25 (by decide) (by omega) (fun c25 => ?_) (fun c25 => ?_)
                      · have ee : cm3 (p1 * s1) (r1 * q1) = 0 := by
                          by_cases hxy : p1 / q1 = r1 / s1
                          · rw [cmq_l hxy, cmq_0 hq0 hs0 (by omega)]; first | exact cm3_lt (by omega) | exact cm3_gt (by omega) | exact cm3_e (by omega)
                          · rw [cmq_w hq0 hs0 hxy]; first | exact cm3_lt (by omega) | exact cm3_gt (by omega) | exact cm3_e (by omega)
                        refine mm_iload dX12_compare_180 6 rfl ?_
                        refine mm_iload dX12_compare_182 1 rfl ?_
                        refine mn_top (u := .int (Int32.ofInt (0))) (congrArg Value.int (by decide)) ?_
                        refine mm_imul dX12_compare_184 ?_
                        exact mm_iret dX12_compare_185 rfl ⟨rfl, by rw [i32_mul, ← he, ee]⟩
                      · exact absurd rfl c25
                    · refine mm_iconst (v := nI 1) dX12_compare_142 (by decide) ?_
                      refine mm_goto (tgt := 148) dX12_compare_143 (by decide) ?_
                      refine mm_istore (L' := [(18, .int (nI (1))), (25, .long (lN ((r1) % (s1)))), (23, .long (lN ((p1) % (q1)))), (21, .long (lN ((r1) / (s1)))), (19, .long (lN ((p1) / (q1)))), (17, .int (nI (1))), (16, .int (Int32.ofInt e)), (14, .long (lN (s1))), (12, .long (lN (r1))), (10, .long (lN (q1))), (8, .long (lN (p1))), (0, .long (lN (p))), (2, .long (lN (q))), (4, .long (lN (r))), (6, .long (lN (s)))]) dX12_compare_148 (by decide) rfl ?_
                      refine mm_iconst (v := nI 0) dX12_compare_150 (by decide) ?_
                      refine mm_istore (L' := [(17, .int (nI (0))), (18, .int (nI (1))), (25, .long (lN ((r1) % (s1)))), (23, .long (lN ((p1) % (q1)))), (21, .long (lN ((r1) / (s1)))), (19, .long (lN ((p1) / (q1)))), (16, .int (Int32.ofInt e)), (14, .long (lN (s1))), (12, .long (lN (r1))), (10, .long (lN (q1))), (8, .long (lN (p1))), (0, .long (lN (p))), (2, .long (lN (q))), (4, .long (lN (r))), (6, .long (lN (s)))]) dX12_compare_151 (by decide) rfl ?_
                      refine mm_goto (tgt := 177) dX12_compare_153 (by decide) ?_
                      refine mm_goto (tgt := 23) dX12_compare_177 (by decide) ?_
                      refine mm_iload dX12_compare_23 0 rfl ?_
                      refine mn_if_eq (tgt := 180) dX12_compare_25 (by decide) (by omega) (fun c25 => ?_) (fun c25 => ?_)
                      · have ee : cm3 (p1 * s1) (r1 * q1) = 1 := by
                          by_cases hxy : p1 / q1 = r1 / s1
                          · rw [cmq_l hxy, cmq_0 hq0 hs0 (by omega)]; first | exact cm3_lt (by omega) | exact cm3_gt (by omega) | exact cm3_e (by omega)
                          · rw [cmq_w hq0 hs0 hxy]; first | exact cm3_lt (by omega) | exact cm3_gt (by omega) | exact cm3_e (by omega)
                        refine mm_iload dX12_compare_180 6 rfl ?_
                        refine mm_iload dX12_compare_182 1 rfl ?_
                        refine mn_top (u := .int (Int32.ofInt (1))) (congrArg Value.int (by decide)) ?_
                        refine mm_imul dX12_compare_184 ?_
                        exact mm_iret dX12_compare_185 rfl ⟨rfl, by rw [i32_mul, ← he, ee]⟩
                      · exact absurd rfl c25
              · refine mm_lload dX12_compare_94 1 rfl ?_
                refine mm_lconst (v := lN 0) dX12_compare_96 (by decide) ?_
                refine mn_lc_ne (tgt := 112) dX12_compare_97 dX12_compare_98 (by decide) (by omega) (by omega) (fun c97 => ?_) (fun c97 => ?_)
                · refine mm_lload dX12_compare_112 3 rfl ?_
                  refine mm_lload dX12_compare_114 2 rfl ?_
                  refine mn_lc_ne (tgt := 131) dX12_compare_116 dX12_compare_117 (by decide) (by omega) (by omega) (fun c116 => ?_) (fun c116 => ?_)
                  · refine mm_iconst (v := nI 1) dX12_compare_131 (by decide) ?_
                    refine mm_istore (L' := [(18, .int (nI (1))), (25, .long (lN ((r1) % (s1)))), (23, .long (lN ((p1) % (q1)))), (21, .long (lN ((r1) / (s1)))), (19, .long (lN ((p1) / (q1)))), (17, .int (nI (1))), (16, .int (Int32.ofInt e)), (14, .long (lN (s1))), (12, .long (lN (r1))), (10, .long (lN (q1))), (8, .long (lN (p1))), (0, .long (lN (p))), (2, .long (lN (q))), (4, .long (lN (r))), (6, .long (lN (s)))]) dX12_compare_132 (by decide) rfl ?_
                    refine mm_lload dX12_compare_134 4 rfl ?_
                    refine mm_lload dX12_compare_136 3 rfl ?_
                    refine mn_lc_le (tgt := 146) dX12_compare_138 dX12_compare_139 (by decide) (by omega) (by omega) (fun c138 => ?_) (fun c138 => ?_)
                    · refine mm_iload dX12_compare_146 0 rfl ?_
                      refine mm_istore (L' := [(18, .int (nI (1))), (25, .long (lN ((r1) % (s1)))), (23, .long (lN ((p1) % (q1)))), (21, .long (lN ((r1) / (s1)))), (19, .long (lN ((p1) / (q1)))), (17, .int (nI (1))), (16, .int (Int32.ofInt e)), (14, .long (lN (s1))), (12, .long (lN (r1))), (10, .long (lN (q1))), (8, .long (lN (p1))), (0, .long (lN (p))), (2, .long (lN (q))), (4, .long (lN (r))), (6, .long (lN (s)))]) dX12_compare_148 (by decide) rfl ?_
                      refine mm_iconst (v := nI 0) dX12_compare_150 (by decide) ?_
                      refine mm_istore (L' := [(17, .int (nI (0))), (18, .int (nI (1))), (25, .long (lN ((r1) % (s1)))), (23, .long (lN ((p1) % (q1)))), (21, .long (lN ((r1) / (s1)))), (19, .long (lN ((p1) / (q1)))), (16, .int (Int32.ofInt e)), (14, .long (lN (s1))), (12, .long (lN (r1))), (10, .long (lN (q1))), (8, .long (lN (p1))), (0, .long (lN (p))), (2, .long (lN (q))), (4, .long (lN (r))), (6, .long (lN (s)))]) dX12_compare_151 (by decide) rfl ?_
                      refine mm_goto (tgt := 177) dX12_compare_153 (by decide) ?_
                      refine mm_goto (tgt := 23) dX12_compare_177 (by decide) ?_
                      refine mm_iload dX12_compare_23 0 rfl ?_
                      refine mn_if_eq (tgt := 180) dX12_compare_25 (by decide) (by omega) (fun c25 => ?_) (fun c25 => ?_)
                      · have ee : cm3 (p1 * s1) (r1 * q1) = 1 := by
                          by_cases hxy : p1 / q1 = r1 / s1
                          · rw [cmq_l hxy, cmq_0 hq0 hs0 (by omega)]; first | exact cm3_lt (by omega) | exact cm3_gt (by omega) | exact cm3_e (by omega)
                          · rw [cmq_w hq0 hs0 hxy]; first | exact cm3_lt (by omega) | exact cm3_gt (by omega) | exact cm3_e (by omega)
                        refine mm_iload dX12_compare_180 6 rfl ?_
                        refine mm_iload dX12_compare_182 1 rfl ?_
                        refine mn_top (u := .int (Int32.ofInt (1))) (congrArg Value.int (by decide)) ?_
                        refine mm_imul dX12_compare_184 ?_
                        exact mm_iret dX12_compare_185 rfl ⟨rfl, by rw [i32_mul, ← he, ee]⟩
                      · exact absurd rfl c25
                    · refine mm_iconst (v := nI 1) dX12_compare_142 (by decide) ?_
                      refine mm_goto (tgt := 148) dX12_compare_143 (by decide) ?_
                      refine mm_istore (L' := [(18, .int (nI (1))), (25, .long (lN ((r1) % (s1)))), (23, .long (lN ((p1) % (q1)))), (21, .long (lN ((r1) / (s1)))), (19, .long (lN ((p1) / (q1)))), (17, .int (nI (1))), (16, .int (Int32.ofInt e)), (14, .long (lN (s1))), (12, .long (lN (r1))), (10, .long (lN (q1))), (8, .long (lN (p1))), (0, .long (lN (p))), (2, .long (lN (q))), (4, .long (lN (r))), (6, .long (lN (s)))]) dX12_compare_148 (by decide) rfl ?_
                      refine mm_iconst (v := nI 0) dX12_compare_150 (by decide) ?_
                      refine mm_istore (L' := [(17, .int (nI (0))), (18, .int (nI (1))), (25, .long (lN ((r1) % (s1)))), (23, .long (lN ((p1) % (q1)))), (21, .long (lN ((r1) / (s1)))), (19, .long (lN ((p1) / (q1)))), (16, .int (Int32.ofInt e)), (14, .long (lN (s1))), (12, .long (lN (r1))), (10, .long (lN (q1))), (8, .long (lN (p1))), (0, .long (lN (p))), (2, .long (lN (q))), (4, .long (lN (r))), (6, .long (lN (s)))]) dX12_compare_151 (by decide) rfl ?_
                      refine mm_goto (tgt := 177) dX12_compare_153 (by decide) ?_
                      refine mm_goto (tgt := 23) dX12_compare_177 (by decide) ?_
                      refine mm_iload dX12_compare_23 0 rfl ?_
                      refine mn_if_eq (tgt := 180) dX12_compare_25 (by decide) (by omega) (fun c25 => ?_) (fun c25 => ?_)
                      · have ee : cm3 (p1 * s1) (r1 * q1) = 1 := by
                          by_cases hxy : p1 / q1 = r1 / s1
                          · rw [cmq_l hxy, cmq_0 hq0 hs0 (by omega)]; first | exact cm3_lt (by omega) | exact cm3_gt (by omega) | exact cm3_e (by omega)
                          · rw [cmq_w hq0 hs0 hxy]; first | exact cm3_lt (by omega) | exact cm3_gt (by omega) | exact cm3_e (by omega)
                        refine mm_iload dX12_compare_180 6 rfl ?_
                        refine mm_iload dX12_compare_182 1 rfl ?_
                        refine mn_top (u := .int (Int32.ofInt (1))) (congrArg Value.int (by decide)) ?_
                        refine mm_imul dX12_compare_184 ?_
                        exact mm_iret dX12_compare_185 rfl ⟨rfl, by rw [i32_mul, ← he, ee]⟩
                      · exact absurd rfl c25
                  · refine mm_lload dX12_compare_120 1 rfl ?_
                    refine mm_lconst (v := lN 0) dX12_compare_122 (by decide) ?_
                    refine mn_lc_ne (tgt := 131) dX12_compare_123 dX12_compare_124 (by decide) (by omega) (by omega) (fun c123 => ?_) (fun c123 => ?_)
                    · refine mm_iconst (v := nI 1) dX12_compare_131 (by decide) ?_
                      refine mm_istore (L' := [(18, .int (nI (1))), (25, .long (lN ((r1) % (s1)))), (23, .long (lN ((p1) % (q1)))), (21, .long (lN ((r1) / (s1)))), (19, .long (lN ((p1) / (q1)))), (17, .int (nI (1))), (16, .int (Int32.ofInt e)), (14, .long (lN (s1))), (12, .long (lN (r1))), (10, .long (lN (q1))), (8, .long (lN (p1))), (0, .long (lN (p))), (2, .long (lN (q))), (4, .long (lN (r))), (6, .long (lN (s)))]) dX12_compare_132 (by decide) rfl ?_
                      refine mm_lload dX12_compare_134 4 rfl ?_
                      refine mm_lload dX12_compare_136 3 rfl ?_
                      refine mn_lc_le (tgt := 146) dX12_compare_138 dX12_compare_139 (by decide) (by omega) (by omega) (fun c138 => ?_) (fun c138 => ?_)
                      · refine mm_iload dX12_compare_146 0 rfl ?_
                        refine mm_istore (L' := [(18, .int (nI (1))), (25, .long (lN ((r1) % (s1)))), (23, .long (lN ((p1) % (q1)))), (21, .long (lN ((r1) / (s1)))), (19, .long (lN ((p1) / (q1)))), (17, .int (nI (1))), (16, .int (Int32.ofInt e)), (14, .long (lN (s1))), (12, .long (lN (r1))), (10, .long (lN (q1))), (8, .long (lN (p1))), (0, .long (lN (p))), (2, .long (lN (q))), (4, .long (lN (r))), (6, .long (lN (s)))]) dX12_compare_148 (by decide) rfl ?_
                        refine mm_iconst (v := nI 0) dX12_compare_150 (by decide) ?_
                        refine mm_istore (L' := [(17, .int (nI (0))), (18, .int (nI (1))), (25, .long (lN ((r1) % (s1)))), (23, .long (lN ((p1) % (q1)))), (21, .long (lN ((r1) / (s1)))), (19, .long (lN ((p1) / (q1)))), (16, .int (Int32.ofInt e)), (14, .long (lN (s1))), (12, .long (lN (r1))), (10, .long (lN (q1))), (8, .long (lN (p1))), (0, .long (lN (p))), (2, .long (lN (q))), (4, .long (lN (r))), (6, .long (lN (s)))]) dX12_compare_151 (by decide) rfl ?_
                        refine mm_goto (tgt := 177) dX12_compare_153 (by decide) ?_
                        refine mm_goto (tgt := 23) dX12_compare_177 (by decide) ?_
                        refine mm_iload dX12_compare_23 0 rfl ?_
                        refine mn_if_eq (tgt := 180) dX12_compare_25 (by decide) (by omega) (fun c25 => ?_) (fun c25 => ?_)
                        · have ee : cm3 (p1 * s1) (r1 * q1) = 1 := by
                            by_cases hxy : p1 / q1 = r1 / s1
                            · rw [cmq_l hxy, cmq_0 hq0 hs0 (by omega)]; first | exact cm3_lt (by omega) | exact cm3_gt (by omega) | exact cm3_e (by omega)
                            · rw [cmq_w hq0 hs0 hxy]; first | exact cm3_lt (by omega) | exact cm3_gt (by omega) | exact cm3_e (by omega)
                          refine mm_iload dX12_compare_180 6 rfl ?_
                          refine mm_iload dX12_compare_182 1 rfl ?_
                          refine mn_top (u := .int (Int32.ofInt (1))) (congrArg Value.int (by decide)) ?_
                          refine mm_imul dX12_compare_184 ?_
                          exact mm_iret dX12_compare_185 rfl ⟨rfl, by rw [i32_mul, ← he, ee]⟩
                        · exact absurd rfl c25
                      · refine mm_iconst (v := nI 1) dX12_compare_142 (by decide) ?_
                        refine mm_goto (tgt := 148) dX12_compare_143 (by decide) ?_
                        refine mm_istore (L' := [(18, .int (nI (1))), (25, .long (lN ((r1) % (s1)))), (23, .long (lN ((p1) % (q1)))), (21, .long (lN ((r1) / (s1)))), (19, .long (lN ((p1) / (q1)))), (17, .int (nI (1))), (16, .int (Int32.ofInt e)), (14, .long (lN (s1))), (12, .long (lN (r1))), (10, .long (lN (q1))), (8, .long (lN (p1))), (0, .long (lN (p))), (2, .long (lN (q))), (4, .long (lN (r))), (6, .long (lN (s)))]) dX12_compare_148 (by decide) rfl ?_
                        refine mm_iconst (v := nI 0) dX12_compare_150 (by decide) ?_
                        refine mm_istore (L' := [(17, .int (nI (0))), (18, .int (nI (1))), (25, .long (lN ((r1) % (s1)))), (23, .long (lN ((p1) % (q1)))), (21, .long (lN ((r1) / (s1)))), (19, .long (lN ((p1) / (q1)))), (16, .int (Int32.ofInt e)), (14, .long (lN (s1))), (12, .long (lN (r1))), (10, .long (lN (q1))), (8, .long (lN (p1))), (0, .long (lN (p))), (2, .long (lN (q))), (4, .long (lN (r))), (6, .long (lN (s)))]) dX12_compare_151 (by decide) rfl ?_
                        refine mm_goto (tgt := 177) dX12_compare_153 (by decide) ?_
                        refine mm_goto (tgt := 23) dX12_compare_177 (by decide) ?_
                        refine mm_iload dX12_compare_23 0 rfl ?_
                        refine mn_if_eq (tgt := 180) dX12_compare_25 (by decide) (by omega) (fun c25 => ?_) (fun c25 => ?_)
                        · have ee : cm3 (p1 * s1) (r1 * q1) = 1 := by
                            by_cases hxy : p1 / q1 = r1 / s1
                            · rw [cmq_l hxy, cmq_0 hq0 hs0 (by omega)]; first | exact cm3_lt (by omega) | exact cm3_gt (by omega) | exact cm3_e (by omega)
                            · rw [cmq_w hq0 hs0 hxy]; first | exact cm3_lt (by omega) | exact cm3_gt (by omega) | exact cm3_e (by omega)
                          refine mm_iload dX12_compare_180 6 rfl ?_
                          refine mm_iload dX12_compare_182 1 rfl ?_
                          refine mn_top (u := .int (Int32.ofInt (1))) (congrArg Value.int (by decide)) ?_
                          refine mm_imul dX12_compare_184 ?_
                          exact mm_iret dX12_compare_185 rfl ⟨rfl, by rw [i32_mul, ← he, ee]⟩
                        · exact absurd rfl c25
                    · refine mm_iconst (v := nI 0) dX12_compare_127 (by decide) ?_
                      refine mm_goto (tgt := 132) dX12_compare_128 (by decide) ?_
                      refine mm_istore (L' := [(18, .int (nI (0))), (25, .long (lN ((r1) % (s1)))), (23, .long (lN ((p1) % (q1)))), (21, .long (lN ((r1) / (s1)))), (19, .long (lN ((p1) / (q1)))), (17, .int (nI (1))), (16, .int (Int32.ofInt e)), (14, .long (lN (s1))), (12, .long (lN (r1))), (10, .long (lN (q1))), (8, .long (lN (p1))), (0, .long (lN (p))), (2, .long (lN (q))), (4, .long (lN (r))), (6, .long (lN (s)))]) dX12_compare_132 (by decide) rfl ?_
                      refine mm_lload dX12_compare_134 4 rfl ?_
                      refine mm_lload dX12_compare_136 3 rfl ?_
                      refine mn_lc_le (tgt := 146) dX12_compare_138 dX12_compare_139 (by decide) (by omega) (by omega) (fun c138 => ?_) (fun c138 => ?_)
                      · refine mm_iload dX12_compare_146 0 rfl ?_
                        refine mm_istore (L' := [(18, .int (nI (0))), (25, .long (lN ((r1) % (s1)))), (23, .long (lN ((p1) % (q1)))), (21, .long (lN ((r1) / (s1)))), (19, .long (lN ((p1) / (q1)))), (17, .int (nI (1))), (16, .int (Int32.ofInt e)), (14, .long (lN (s1))), (12, .long (lN (r1))), (10, .long (lN (q1))), (8, .long (lN (p1))), (0, .long (lN (p))), (2, .long (lN (q))), (4, .long (lN (r))), (6, .long (lN (s)))]) dX12_compare_148 (by decide) rfl ?_
                        refine mm_iconst (v := nI 0) dX12_compare_150 (by decide) ?_
                        refine mm_istore (L' := [(17, .int (nI (0))), (18, .int (nI (0))), (25, .long (lN ((r1) % (s1)))), (23, .long (lN ((p1) % (q1)))), (21, .long (lN ((r1) / (s1)))), (19, .long (lN ((p1) / (q1)))), (16, .int (Int32.ofInt e)), (14, .long (lN (s1))), (12, .long (lN (r1))), (10, .long (lN (q1))), (8, .long (lN (p1))), (0, .long (lN (p))), (2, .long (lN (q))), (4, .long (lN (r))), (6, .long (lN (s)))]) dX12_compare_151 (by decide) rfl ?_
                        refine mm_goto (tgt := 177) dX12_compare_153 (by decide) ?_
                        refine mm_goto (tgt := 23) dX12_compare_177 (by decide) ?_
                        refine mm_iload dX12_compare_23 0 rfl ?_
                        refine mn_if_eq (tgt := 180) dX12_compare_25 (by decide) (by omega) (fun c25 => ?_) (fun c25 => ?_)
                        · have ee : cm3 (p1 * s1) (r1 * q1) = 0 := by
                            by_cases hxy : p1 / q1 = r1 / s1
                            · rw [cmq_l hxy, cmq_0 hq0 hs0 (by omega)]; first | exact cm3_lt (by omega) | exact cm3_gt (by omega) | exact cm3_e (by omega)
                            · rw [cmq_w hq0 hs0 hxy]; first | exact cm3_lt (by omega) | exact cm3_gt (by omega) | exact cm3_e (by omega)
                          refine mm_iload dX12_compare_180 6 rfl ?_
                          refine mm_iload dX12_compare_182 1 rfl ?_
                          refine mn_top (u := .int (Int32.ofInt (0))) (congrArg Value.int (by decide)) ?_
                          refine mm_imul dX12_compare_184 ?_
                          exact mm_iret dX12_compare_185 rfl ⟨rfl, by rw [i32_mul, ← he, ee]⟩
                        · exact absurd rfl c25
                      · refine mm_iconst (v := nI 1) dX12_compare_142 (by decide) ?_
                        refine mm_goto (tgt := 148) dX12_compare_143 (by decide) ?_
                        refine mm_istore (L' := [(18, .int (nI (1))), (25, .long (lN ((r1) % (s1)))), (23, .long (lN ((p1) % (q1)))), (21, .long (lN ((r1) / (s1)))), (19, .long (lN ((p1) / (q1)))), (17, .int (nI (1))), (16, .int (Int32.ofInt e)), (14, .long (lN (s1))), (12, .long (lN (r1))), (10, .long (lN (q1))), (8, .long (lN (p1))), (0, .long (lN (p))), (2, .long (lN (q))), (4, .long (lN (r))), (6, .long (lN (s)))]) dX12_compare_148 (by decide) rfl ?_
                        refine mm_iconst (v := nI 0) dX12_compare_150 (by decide) ?_
                        refine mm_istore (L' := [(17, .int (nI (0))), (18, .int (nI (1))), (25, .long (lN ((r1) % (s1)))), (23, .long (lN ((p1) % (q1)))), (21, .long (lN ((r1) / (s1)))), (19, .long (lN ((p1) / (q1)))), (16, .int (Int32.ofInt e)), (14, .long (lN (s1))), (12, .long (lN (r1))), (10, .long (lN (q1))), (8, .long (lN (p1))), (0, .long (lN (p))), (2, .long (lN (q))), (4, .long (lN (r))), (6, .long (lN (s)))]) dX12_compare_151 (by decide) rfl ?_
                        refine mm_goto (tgt := 177) dX12_compare_153 (by decide) ?_
                        refine mm_goto (tgt := 23) dX12_compare_177 (by decide) ?_
                        refine mm_iload dX12_compare_23 0 rfl ?_
                        refine mn_if_eq (tgt := 180) dX12_compare_25 (by decide) (by omega) (fun c25 => ?_) (fun c25 => ?_)
                        · have ee : cm3 (p1 * s1) (r1 * q1) = 1 := by
                            by_cases hxy : p1 / q1 = r1 / s1
                            · rw [cmq_l hxy, cmq_0 hq0 hs0 (by omega)]; first | exact cm3_lt (by omega) | exact cm3_gt (by omega) | exact cm3_e (by omega)
                            · rw [cmq_w hq0 hs0 hxy]; first | exact cm3_lt (by omega) | exact cm3_gt (by omega) | exact cm3_e (by omega)
                          refine mm_iload dX12_compare_180 6 rfl ?_
                          refine mm_iload dX12_compare_182 1 rfl ?_
                          refine mn_top (u := .int (Int32.ofInt (1))) (congrArg Value.int (by decide)) ?_
                          refine mm_imul dX12_compare_184 ?_
                          exact mm_iret dX12_compare_185 rfl ⟨rfl, by rw [i32_mul, ← he, ee]⟩
                        · exact absurd rfl c25
                · refine mm_lload dX12_compare_101 0 rfl ?_
                  refine mm_lconst (v := lN 0) dX12_compare_103 (by decide) ?_
                  refine mn_lc_le (tgt := 112) dX12_compare_104 dX12_compare_105 (by decide) (by omega) (by omega) (fun c104 => ?_) (fun c104 => ?_)
                  · refine mm_lload dX12_compare_112 3 rfl ?_
                    refine mm_lload dX12_compare_114 2 rfl ?_
                    refine mn_lc_ne (tgt := 131) dX12_compare_116 dX12_compare_117 (by decide) (by omega) (by omega) (fun c116 => ?_) (fun c116 => ?_)
                    · refine mm_iconst (v := nI 1) dX12_compare_131 (by decide) ?_
                      refine mm_istore (L' := [(18, .int (nI (1))), (25, .long (lN ((r1) % (s1)))), (23, .long (lN ((p1) % (q1)))), (21, .long (lN ((r1) / (s1)))), (19, .long (lN ((p1) / (q1)))), (17, .int (nI (1))), (16, .int (Int32.ofInt e)), (14, .long (lN (s1))), (12, .long (lN (r1))), (10, .long (lN (q1))), (8, .long (lN (p1))), (0, .long (lN (p))), (2, .long (lN (q))), (4, .long (lN (r))), (6, .long (lN (s)))]) dX12_compare_132 (by decide) rfl ?_
                      refine mm_lload dX12_compare_134 4 rfl ?_
                      refine mm_lload dX12_compare_136 3 rfl ?_
                      refine mn_lc_le (tgt := 146) dX12_compare_138 dX12_compare_139 (by decide) (by omega) (by omega) (fun c138 => ?_) (fun c138 => ?_)
                      · refine mm_iload dX12_compare_146 0 rfl ?_
                        refine mm_istore (L' := [(18, .int (nI (1))), (25, .long (lN ((r1) % (s1)))), (23, .long (lN ((p1) % (q1)))), (21, .long (lN ((r1) / (s1)))), (19, .long (lN ((p1) / (q1)))), (17, .int (nI (1))), (16, .int (Int32.ofInt e)), (14, .long (lN (s1))), (12, .long (lN (r1))), (10, .long (lN (q1))), (8, .long (lN (p1))), (0, .long (lN (p))), (2, .long (lN (q))), (4, .long (lN (r))), (6, .long (lN (s)))]) dX12_compare_148 (by decide) rfl ?_
                        refine mm_iconst (v := nI 0) dX12_compare_150 (by decide) ?_
                        refine mm_istore (L' := [(17, .int (nI (0))), (18, .int (nI (1))), (25, .long (lN ((r1) % (s1)))), (23, .long (lN ((p1) % (q1)))), (21, .long (lN ((r1) / (s1)))), (19, .long (lN ((p1) / (q1)))), (16, .int (Int32.ofInt e)), (14, .long (lN (s1))), (12, .long (lN (r1))), (10, .long (lN (q1))), (8, .long (lN (p1))), (0, .long (lN (p))), (2, .long (lN (q))), (4, .long (lN (r))), (6, .long (lN (s)))]) dX12_compare_151 (by decide) rfl ?_
                        refine mm_goto (tgt := 177) dX12_compare_153 (by decide) ?_
                        refine mm_goto (tgt := 23) dX12_compare_177 (by decide) ?_
                        refine mm_iload dX12_compare_23 0 rfl ?_
                        refine mn_if_eq (tgt := 180) dX12_compare_25 (by decide) (by omega) (fun c25 => ?_) (fun c25 => ?_)
                        · have ee : cm3 (p1 * s1) (r1 * q1) = 1 := by
                            by_cases hxy : p1 / q1 = r1 / s1
                            · rw [cmq_l hxy, cmq_0 hq0 hs0 (by omega)]; first | exact cm3_lt (by omega) | exact cm3_gt (by omega) | exact cm3_e (by omega)
                            · rw [cmq_w hq0 hs0 hxy]; first | exact cm3_lt (by omega) | exact cm3_gt (by omega) | exact cm3_e (by omega)
                          refine mm_iload dX12_compare_180 6 rfl ?_
                          refine mm_iload dX12_compare_182 1 rfl ?_
                          refine mn_top (u := .int (Int32.ofInt (1))) (congrArg Value.int (by decide)) ?_
                          refine mm_imul dX12_compare_184 ?_
                          exact mm_iret dX12_compare_185 rfl ⟨rfl, by rw [i32_mul, ← he, ee]⟩
                        · exact absurd rfl c25
                      · refine mm_iconst (v := nI 1) dX12_compare_142 (by decide) ?_
                        refine mm_goto (tgt := 148) dX12_compare_143 (by decide) ?_
                        refine mm_istore (L' := [(18, .int (nI (1))), (25, .long (lN ((r1) % (s1)))), (23, .long (lN ((p1) % (q1)))), (21, .long (lN ((r1) / (s1)))), (19, .long (lN ((p1) / (q1)))), (17, .int (nI (1))), (16, .int (Int32.ofInt e)), (14, .long (lN (s1))), (12, .long (lN (r1))), (10, .long (lN (q1))), (8, .long (lN (p1))), (0, .long (lN (p))), (2, .long (lN (q))), (4, .long (lN (r))), (6, .long (lN (s)))]) dX12_compare_148 (by decide) rfl ?_
                        refine mm_iconst (v := nI 0) dX12_compare_150 (by decide) ?_
                        refine mm_istore (L' := [(17, .int (nI (0))), (18, .int (nI (1))), (25, .long (lN ((r1) % (s1)))), (23, .long (lN ((p1) % (q1)))), (21, .long (lN ((r1) / (s1)))), (19, .long (lN ((p1) / (q1)))), (16, .int (Int32.ofInt e)), (14, .long (lN (s1))), (12, .long (lN (r1))), (10, .long (lN (q1))), (8, .long (lN (p1))), (0, .long (lN (p))), (2, .long (lN (q))), (4, .long (lN (r))), (6, .long (lN (s)))]) dX12_compare_151 (by decide) rfl ?_
                        refine mm_goto (tgt := 177) dX12_compare_153 (by decide) ?_
                        refine mm_goto (tgt := 23) dX12_compare_177 (by decide) ?_
                        refine mm_iload dX12_compare_23 0 rfl ?_
                        refine mn_if_eq (tgt := 180) dX12_compare_25 (by decide) (by omega) (fun c25 => ?_) (fun c25 => ?_)
                        · have ee : cm3 (p1 * s1) (r1 * q1) = 1 := by
                            by_cases hxy : p1 / q1 = r1 / s1
                            · rw [cmq_l hxy, cmq_0 hq0 hs0 (by omega)]; first | exact cm3_lt (by omega) | exact cm3_gt (by omega) | exact cm3_e (by omega)
                            · rw [cmq_w hq0 hs0 hxy]; first | exact cm3_lt (by omega) | exact cm3_gt (by omega) | exact cm3_e (by omega)
                          refine mm_iload dX12_compare_180 6 rfl ?_
                          refine mm_iload dX12_compare_182 1 rfl ?_
                          refine mn_top (u := .int (Int32.ofInt (1))) (congrArg Value.int (by decide)) ?_
                          refine mm_imul dX12_compare_184 ?_
                          exact mm_iret dX12_compare_185 rfl ⟨rfl, by rw [i32_mul, ← he, ee]⟩
                        · exact absurd rfl c25
                    · refine mm_lload dX12_compare_120 1 rfl ?_
                      refine mm_lconst (v := lN 0) dX12_compare_122 (by decide) ?_
                      refine mn_lc_ne (tgt := 131) dX12_compare_123 dX12_compare_124 (by decide) (by omega) (by omega) (fun c123 => ?_) (fun c123 => ?_)
                      · refine mm_iconst (v := nI 1) dX12_compare_131 (by decide) ?_
                        refine mm_istore (L' := [(18, .int (nI (1))), (25, .long (lN ((r1) % (s1)))), (23, .long (lN ((p1) % (q1)))), (21, .long (lN ((r1) / (s1)))), (19, .long (lN ((p1) / (q1)))), (17, .int (nI (1))), (16, .int (Int32.ofInt e)), (14, .long (lN (s1))), (12, .long (lN (r1))), (10, .long (lN (q1))), (8, .long (lN (p1))), (0, .long (lN (p))), (2, .long (lN (q))), (4, .long (lN (r))), (6, .long (lN (s)))]) dX12_compare_132 (by decide) rfl ?_
                        refine mm_lload dX12_compare_134 4 rfl ?_
                        refine mm_lload dX12_compare_136 3 rfl ?_
                        refine mn_lc_le (tgt := 146) dX12_compare_138 dX12_compare_139 (by decide) (by omega) (by omega) (fun c138 => ?_) (fun c138 => ?_)
                        · refine mm_iload dX12_compare_146 0 rfl ?_
                          refine mm_istore (L' := [(18, .int (nI (1))), (25, .long (lN ((r1) % (s1)))), (23, .long (lN ((p1) % (q1)))), (21, .long (lN ((r1) / (s1)))), (19, .long (lN ((p1) / (q1)))), (17, .int (nI (1))), (16, .int (Int32.ofInt e)), (14, .long (lN (s1))), (12, .long (lN (r1))), (10, .long (lN (q1))), (8, .long (lN (p1))), (0, .long (lN (p))), (2, .long (lN (q))), (4, .long (lN (r))), (6, .long (lN (s)))]) dX12_compare_148 (by decide) rfl ?_
                          refine mm_iconst (v := nI 0) dX12_compare_150 (by decide) ?_
                          refine mm_istore (L' := [(17, .int (nI (0))), (18, .int (nI (1))), (25, .long (lN ((r1) % (s1)))), (23, .long (lN ((p1) % (q1)))), (21, .long (lN ((r1) / (s1)))), (19, .long (lN ((p1) / (q1)))), (16, .int (Int32.ofInt e)), (14, .long (lN (s1))), (12, .long (lN (r1))), (10, .long (lN (q1))), (8, .long (lN (p1))), (0, .long (lN (p))), (2, .long (lN (q))), (4, .long (lN (r))), (6, .long (lN (s)))]) dX12_compare_151 (by decide) rfl ?_
                          refine mm_goto (tgt := 177) dX12_compare_153 (by decide) ?_
                          refine mm_goto (tgt := 23) dX12_compare_177 (by decide) ?_
                          refine mm_iload dX12_compare_23 0 rfl ?_
                          refine mn_if_eq (tgt := 180) dX12_compare_25 (by decide) (by omega) (fun c25 => ?_) (fun c25 => ?_)
                          · have ee : cm3 (p1 * s1) (r1 * q1) = 1 := by
                              by_cases hxy : p1 / q1 = r1 / s1
                              · rw [cmq_l hxy, cmq_0 hq0 hs0 (by omega)]; first | exact cm3_lt (by omega) | exact cm3_gt (by omega) | exact cm3_e (by omega)
                              · rw [cmq_w hq0 hs0 hxy]; first | exact cm3_lt (by omega) | exact cm3_gt (by omega) | exact cm3_e (by omega)
                            refine mm_iload dX12_compare_180 6 rfl ?_
                            refine mm_iload dX12_compare_182 1 rfl ?_
                            refine mn_top (u := .int (Int32.ofInt (1))) (congrArg Value.int (by decide)) ?_
                            refine mm_imul dX12_compare_184 ?_
                            exact mm_iret dX12_compare_185 rfl ⟨rfl, by rw [i32_mul, ← he, ee]⟩
                          · exact absurd rfl c25
                        · refine mm_iconst (v := nI 1) dX12_compare_142 (by decide) ?_
                          refine mm_goto (tgt := 148) dX12_compare_143 (by decide) ?_
                          refine mm_istore (L' := [(18, .int (nI (1))), (25, .long (lN ((r1) % (s1)))), (23, .long (lN ((p1) % (q1)))), (21, .long (lN ((r1) / (s1)))), (19, .long (lN ((p1) / (q1)))), (17, .int (nI (1))), (16, .int (Int32.ofInt e)), (14, .long (lN (s1))), (12, .long (lN (r1))), (10, .long (lN (q1))), (8, .long (lN (p1))), (0, .long (lN (p))), (2, .long (lN (q))), (4, .long (lN (r))), (6, .long (lN (s)))]) dX12_compare_148 (by decide) rfl ?_
                          refine mm_iconst (v := nI 0) dX12_compare_150 (by decide) ?_
                          refine mm_istore (L' := [(17, .int (nI (0))), (18, .int (nI (1))), (25, .long (lN ((r1) % (s1)))), (23, .long (lN ((p1) % (q1)))), (21, .long (lN ((r1) / (s1)))), (19, .long (lN ((p1) / (q1)))), (16, .int (Int32.ofInt e)), (14, .long (lN (s1))), (12, .long (lN (r1))), (10, .long (lN (q1))), (8, .long (lN (p1))), (0, .long (lN (p))), (2, .long (lN (q))), (4, .long (lN (r))), (6, .long (lN (s)))]) dX12_compare_151 (by decide) rfl ?_
                          refine mm_goto (tgt := 177) dX12_compare_153 (by decide) ?_
                          refine mm_goto (tgt := 23) dX12_compare_177 (by decide) ?_
                          refine mm_iload dX12_compare_23 0 rfl ?_
                          refine mn_if_eq (tgt := 180) dX12_compare_25 (by decide) (by omega) (fun c25 => ?_) (fun c25 => ?_)
                          · have ee : cm3 (p1 * s1) (r1 * q1) = 1 := by
                              by_cases hxy : p1 / q1 = r1 / s1
                              · rw [cmq_l hxy, cmq_0 hq0 hs0 (by omega)]; first | exact cm3_lt (by omega) | exact cm3_gt (by omega) | exact cm3_e (by omega)
                              · rw [cmq_w hq0 hs0 hxy]; first | exact cm3_lt (by omega) | exact cm3_gt (by omega) | exact cm3_e (by omega)
                            refine mm_iload dX12_compare_180 6 rfl ?_
                            refine mm_iload dX12_compare_182 1 rfl ?_
                            refine mn_top (u := .int (Int32.ofInt (1))) (congrArg Value.int (by decide)) ?_
                            refine mm_imul dX12_compare_184 ?_
                            exact mm_iret dX12_compare_185 rfl ⟨rfl, by rw [i32_mul, ← he, ee]⟩
                          · exact absurd rfl c25
                      · refine mm_iconst (v := nI 0) dX12_compare_127 (by decide) ?_
                        refine mm_goto (tgt := 132) dX12_compare_128 (by decide) ?_
                        refine mm_istore (L' := [(18, .int (nI (0))), (25, .long (lN ((r1) % (s1)))), (23, .long (lN ((p1) % (q1)))), (21, .long (lN ((r1) / (s1)))), (19, .long (lN ((p1) / (q1)))), (17, .int (nI (1))), (16, .int (Int32.ofInt e)), (14, .long (lN (s1))), (12, .long (lN (r1))), (10, .long (lN (q1))), (8, .long (lN (p1))), (0, .long (lN (p))), (2, .long (lN (q))), (4, .long (lN (r))), (6, .long (lN (s)))]) dX12_compare_132 (by decide) rfl ?_
                        refine mm_lload dX12_compare_134 4 rfl ?_
                        refine mm_lload dX12_compare_136 3 rfl ?_
                        refine mn_lc_le (tgt := 146) dX12_compare_138 dX12_compare_139 (by decide) (by omega) (by omega) (fun c138 => ?_) (fun c138 => ?_)
                        · refine mm_iload dX12_compare_146 0 rfl ?_
                          refine mm_istore (L' := [(18, .int (nI (0))), (25, .long (lN ((r1) % (s1)))), (23, .long (lN ((p1) % (q1)))), (21, .long (lN ((r1) / (s1)))), (19, .long (lN ((p1) / (q1)))), (17, .int (nI (1))), (16, .int (Int32.ofInt e)), (14, .long (lN (s1))), (12, .long (lN (r1))), (10, .long (lN (q1))), (8, .long (lN (p1))), (0, .long (lN (p))), (2, .long (lN (q))), (4, .long (lN (r))), (6, .long (lN (s)))]) dX12_compare_148 (by decide) rfl ?_
                          refine mm_iconst (v := nI 0) dX12_compare_150 (by decide) ?_
                          refine mm_istore (L' := [(17, .int (nI (0))), (18, .int (nI (0))), (25, .long (lN ((r1) % (s1)))), (23, .long (lN ((p1) % (q1)))), (21, .long (lN ((r1) / (s1)))), (19, .long (lN ((p1) / (q1)))), (16, .int (Int32.ofInt e)), (14, .long (lN (s1))), (12, .long (lN (r1))), (10, .long (lN (q1))), (8, .long (lN (p1))), (0, .long (lN (p))), (2, .long (lN (q))), (4, .long (lN (r))), (6, .long (lN (s)))]) dX12_compare_151 (by decide) rfl ?_
                          refine mm_goto (tgt := 177) dX12_compare_153 (by decide) ?_
                          refine mm_goto (tgt := 23) dX12_compare_177 (by decide) ?_
                          refine mm_iload dX12_compare_23 0 rfl ?_
                          refine mn_if_eq (tgt := 180) dX12_compare_25 (by decide) (by omega) (fun c25 => ?_) (fun c25 => ?_)
                          · have ee : cm3 (p1 * s1) (r1 * q1) = 0 := by
                              by_cases hxy : p1 / q1 = r1 / s1
                              · rw [cmq_l hxy, cmq_0 hq0 hs0 (by omega)]; first | exact cm3_lt (by omega) | exact cm3_gt (by omega) | exact cm3_e (by omega)
                              · rw [cmq_w hq0 hs0 hxy]; first | exact cm3_lt (by omega) | exact cm3_gt (by omega) | exact cm3_e (by omega)
                            refine mm_iload dX12_compare_180 6 rfl ?_
                            refine mm_iload dX12_compare_182 1 rfl ?_
                            refine mn_top (u := .int (Int32.ofInt (0))) (congrArg Value.int (by decide)) ?_
                            refine mm_imul dX12_compare_184 ?_
                            exact mm_iret dX12_compare_185 rfl ⟨rfl, by rw [i32_mul, ← he, ee]⟩
                          · exact absurd rfl c25
                        · refine mm_iconst (v := nI 1) dX12_compare_142 (by decide) ?_
                          refine mm_goto (tgt := 148) dX12_compare_143 (by decide) ?_
                          refine mm_istore (L' := [(18, .int (nI (1))), (25, .long (lN ((r1) % (s1)))), (23, .long (lN ((p1) % (q1)))), (21, .long (lN ((r1) / (s1)))), (19, .long (lN ((p1) / (q1)))), (17, .int (nI (1))), (16, .int (Int32.ofInt e)), (14, .long (lN (s1))), (12, .long (lN (r1))), (10, .long (lN (q1))), (8, .long (lN (p1))), (0, .long (lN (p))), (2, .long (lN (q))), (4, .long (lN (r))), (6, .long (lN (s)))]) dX12_compare_148 (by decide) rfl ?_
                          refine mm_iconst (v := nI 0) dX12_compare_150 (by decide) ?_
                          refine mm_istore (L' := [(17, .int (nI (0))), (18, .int (nI (1))), (25, .long (lN ((r1) % (s1)))), (23, .long (lN ((p1) % (q1)))), (21, .long (lN ((r1) / (s1)))), (19, .long (lN ((p1) / (q1)))), (16, .int (Int32.ofInt e)), (14, .long (lN (s1))), (12, .long (lN (r1))), (10, .long (lN (q1))), (8, .long (lN (p1))), (0, .long (lN (p))), (2, .long (lN (q))), (4, .long (lN (r))), (6, .long (lN (s)))]) dX12_compare_151 (by decide) rfl ?_
                          refine mm_goto (tgt := 177) dX12_compare_153 (by decide) ?_
                          refine mm_goto (tgt := 23) dX12_compare_177 (by decide) ?_
                          refine mm_iload dX12_compare_23 0 rfl ?_
                          refine mn_if_eq (tgt := 180) dX12_compare_25 (by decide) (by omega) (fun c25 => ?_) (fun c25 => ?_)
                          · have ee : cm3 (p1 * s1) (r1 * q1) = 1 := by
                              by_cases hxy : p1 / q1 = r1 / s1
                              · rw [cmq_l hxy, cmq_0 hq0 hs0 (by omega)]; first | exact cm3_lt (by omega) | exact cm3_gt (by omega) | exact cm3_e (by omega)
                              · rw [cmq_w hq0 hs0 hxy]; first | exact cm3_lt (by omega) | exact cm3_gt (by omega) | exact cm3_e (by omega)
                            refine mm_iload dX12_compare_180 6 rfl ?_
                            refine mm_iload dX12_compare_182 1 rfl ?_
                            refine mn_top (u := .int (Int32.ofInt (1))) (congrArg Value.int (by decide)) ?_
                            refine mm_imul dX12_compare_184 ?_
                            exact mm_iret dX12_compare_185 rfl ⟨rfl, by rw [i32_mul, ← he, ee]⟩
                          · exact absurd rfl c25
                  · refine mm_iconst (v := (-1)) dX12_compare_108 (by decide) ?_
                    refine mm_goto (tgt := 132) dX12_compare_109 (by decide) ?_
                    refine mm_istore (L' := [(18, .int ((-1))), (25, .long (lN ((r1) % (s1)))), (23, .long (lN ((p1) % (q1)))), (21, .long (lN ((r1) / (s1)))), (19, .long (lN ((p1) / (q1)))), (17, .int (nI (1))), (16, .int (Int32.ofInt e)), (14, .long (lN (s1))), (12, .long (lN (r1))), (10, .long (lN (q1))), (8, .long (lN (p1))), (0, .long (lN (p))), (2, .long (lN (q))), (4, .long (lN (r))), (6, .long (lN (s)))]) dX12_compare_132 (by decide) rfl ?_
                    refine mm_lload dX12_compare_134 4 rfl ?_
                    refine mm_lload dX12_compare_136 3 rfl ?_
                    refine mn_lc_le (tgt := 146) dX12_compare_138 dX12_compare_139 (by decide) (by omega) (by omega) (fun c138 => ?_) (fun c138 => ?_)
                    · refine mm_iload dX12_compare_146 0 rfl ?_
                      refine mm_istore (L' := [(18, .int ((-1))), (25, .long (lN ((r1) % (s1)))), (23, .long (lN ((p1) % (q1)))), (21, .long (lN ((r1) / (s1)))), (19, .long (lN ((p1) / (q1)))), (17, .int (nI (1))), (16, .int (Int32.ofInt e)), (14, .long (lN (s1))), (12, .long (lN (r1))), (10, .long (lN (q1))), (8, .long (lN (p1))), (0, .long (lN (p))), (2, .long (lN (q))), (4, .long (lN (r))), (6, .long (lN (s)))]) dX12_compare_148 (by decide) rfl ?_
                      refine mm_iconst (v := nI 0) dX12_compare_150 (by decide) ?_
                      refine mm_istore (L' := [(17, .int (nI (0))), (18, .int ((-1))), (25, .long (lN ((r1) % (s1)))), (23, .long (lN ((p1) % (q1)))), (21, .long (lN ((r1) / (s1)))), (19, .long (lN ((p1) / (q1)))), (16, .int (Int32.ofInt e)), (14, .long (lN (s1))), (12, .long (lN (r1))), (10, .long (lN (q1))), (8, .long (lN (p1))), (0, .long (lN (p))), (2, .long (lN (q))), (4, .long (lN (r))), (6, .long (lN (s)))]) dX12_compare_151 (by decide) rfl ?_
                      refine mm_goto (tgt := 177) dX12_compare_153 (by decide) ?_
                      refine mm_goto (tgt := 23) dX12_compare_177 (by decide) ?_
                      refine mm_iload dX12_compare_23 0 rfl ?_
                      refine mn_if_eq (tgt := 180) dX12_compare_25 (by decide) (by omega) (fun c25 => ?_) (fun c25 => ?_)
                      · have ee : cm3 (p1 * s1) (r1 * q1) = -1 := by
                          by_cases hxy : p1 / q1 = r1 / s1
                          · rw [cmq_l hxy, cmq_0 hq0 hs0 (by omega)]; first | exact cm3_lt (by omega) | exact cm3_gt (by omega) | exact cm3_e (by omega)
                          · rw [cmq_w hq0 hs0 hxy]; first | exact cm3_lt (by omega) | exact cm3_gt (by omega) | exact cm3_e (by omega)
                        refine mm_iload dX12_compare_180 6 rfl ?_
                        refine mm_iload dX12_compare_182 1 rfl ?_
                        refine mn_top (u := .int (Int32.ofInt (-1))) (congrArg Value.int (by decide)) ?_
                        refine mm_imul dX12_compare_184 ?_
                        exact mm_iret dX12_compare_185 rfl ⟨rfl, by rw [i32_mul, ← he, ee]⟩
                      · exact absurd rfl c25
                    · refine mm_iconst (v := nI 1) dX12_compare_142 (by decide) ?_
                      refine mm_goto (tgt := 148) dX12_compare_143 (by decide) ?_
                      refine mm_istore (L' := [(18, .int (nI (1))), (25, .long (lN ((r1) % (s1)))), (23, .long (lN ((p1) % (q1)))), (21, .long (lN ((r1) / (s1)))), (19, .long (lN ((p1) / (q1)))), (17, .int (nI (1))), (16, .int (Int32.ofInt e)), (14, .long (lN (s1))), (12, .long (lN (r1))), (10, .long (lN (q1))), (8, .long (lN (p1))), (0, .long (lN (p))), (2, .long (lN (q))), (4, .long (lN (r))), (6, .long (lN (s)))]) dX12_compare_148 (by decide) rfl ?_
                      refine mm_iconst (v := nI 0) dX12_compare_150 (by decide) ?_
                      refine mm_istore (L' := [(17, .int (nI (0))), (18, .int (nI (1))), (25, .long (lN ((r1) % (s1)))), (23, .long (lN ((p1) % (q1)))), (21, .long (lN ((r1) / (s1)))), (19, .long (lN ((p1) / (q1)))), (16, .int (Int32.ofInt e)), (14, .long (lN (s1))), (12, .long (lN (r1))), (10, .long (lN (q1))), (8, .long (lN (p1))), (0, .long (lN (p))), (2, .long (lN (q))), (4, .long (lN (r))), (6, .long (lN (s)))]) dX12_compare_151 (by decide) rfl ?_
                      refine mm_goto (tgt := 177) dX12_compare_153 (by decide) ?_
                      refine mm_goto (tgt := 23) dX12_compare_177 (by decide) ?_
                      refine mm_iload dX12_compare_23 0 rfl ?_
                      refine mn_if_eq (tgt := 180) dX12_compare_25 (by decide) (by omega) (fun c25 => ?_) (fun c25 => ?_)
                      · have ee : cm3 (p1 * s1) (r1 * q1) = 1 := by
                          by_cases hxy : p1 / q1 = r1 / s1
                          · rw [cmq_l hxy, cmq_0 hq0 hs0 (by omega)]; first | exact cm3_lt (by omega) | exact cm3_gt (by omega) | exact cm3_e (by omega)
                          · rw [cmq_w hq0 hs0 hxy]; first | exact cm3_lt (by omega) | exact cm3_gt (by omega) | exact cm3_e (by omega)
                        refine mm_iload dX12_compare_180 6 rfl ?_
                        refine mm_iload dX12_compare_182 1 rfl ?_
                        refine mn_top (u := .int (Int32.ofInt (1))) (congrArg Value.int (by decide)) ?_
                        refine mm_imul dX12_compare_184 ?_
                        exact mm_iret dX12_compare_185 rfl ⟨rfl, by rw [i32_mul, ← he, ee]⟩
                      · exact absurd rfl c25
          · refine mm_lload dX12_compare_71 0 rfl ?_
            refine mm_lconst (v := lN 0) dX12_compare_73 (by decide) ?_
            refine mn_lc_ne (tgt := 156) dX12_compare_74 dX12_compare_75 (by decide) (by omega) (by omega) (fun c74 => ?_) (fun c74 => ?_)
            · have hxy : p1 / q1 = r1 / s1 := by omega
              have hl := cmq_l (p := p1) (q := q1) (r := r1) (s := s1) hxy
              refine mm_lload dX12_compare_156 9 rfl ?_
              refine mm_lstore (L' := [(8, .long (lN (q1))), (25, .long (lN ((r1) % (s1)))), (23, .long (lN ((p1) % (q1)))), (21, .long (lN ((r1) / (s1)))), (19, .long (lN ((p1) / (q1)))), (18, .int (nI (0))), (17, .int (nI (1))), (16, .int (Int32.ofInt e)), (14, .long (lN (s1))), (12, .long (lN (r1))), (10, .long (lN (q1))), (0, .long (lN (p))), (2, .long (lN (q))), (4, .long (lN (r))), (6, .long (lN (s)))]) dX12_compare_158 (by decide) rfl ?_
              refine mm_lload dX12_compare_160 2 rfl ?_
              refine mm_lstore (L' := [(10, .long (lN ((p1) % (q1)))), (8, .long (lN (q1))), (25, .long (lN ((r1) % (s1)))), (23, .long (lN ((p1) % (q1)))), (21, .long (lN ((r1) / (s1)))), (19, .long (lN ((p1) / (q1)))), (18, .int (nI (0))), (17, .int (nI (1))), (16, .int (Int32.ofInt e)), (14, .long (lN (s1))), (12, .long (lN (r1))), (0, .long (lN (p))), (2, .long (lN (q))), (4, .long (lN (r))), (6, .long (lN (s)))]) dX12_compare_162 (by decide) rfl ?_
              refine mm_lload dX12_compare_164 9 rfl ?_
              refine mm_lstore (L' := [(12, .long (lN (s1))), (10, .long (lN ((p1) % (q1)))), (8, .long (lN (q1))), (25, .long (lN ((r1) % (s1)))), (23, .long (lN ((p1) % (q1)))), (21, .long (lN ((r1) / (s1)))), (19, .long (lN ((p1) / (q1)))), (18, .int (nI (0))), (17, .int (nI (1))), (16, .int (Int32.ofInt e)), (14, .long (lN (s1))), (0, .long (lN (p))), (2, .long (lN (q))), (4, .long (lN (r))), (6, .long (lN (s)))]) dX12_compare_166 (by decide) rfl ?_
              refine mm_lload dX12_compare_168 3 rfl ?_
              refine mm_lstore (L' := [(14, .long (lN ((r1) % (s1)))), (12, .long (lN (s1))), (10, .long (lN ((p1) % (q1)))), (8, .long (lN (q1))), (25, .long (lN ((r1) % (s1)))), (23, .long (lN ((p1) % (q1)))), (21, .long (lN ((r1) / (s1)))), (19, .long (lN ((p1) / (q1)))), (18, .int (nI (0))), (17, .int (nI (1))), (16, .int (Int32.ofInt e)), (0, .long (lN (p))), (2, .long (lN (q))), (4, .long (lN (r))), (6, .long (lN (s)))]) dX12_compare_170 (by decide) rfl ?_
              refine mm_iload dX12_compare_172 10 rfl ?_
              refine mm_ineg dX12_compare_174 ?_
              refine mn_top (u := .int (Int32.ofInt (-e))) (congrArg Value.int (i32_neg)) ?_
              refine mm_istore (L' := [(16, .int (Int32.ofInt (-e))), (14, .long (lN ((r1) % (s1)))), (12, .long (lN (s1))), (10, .long (lN ((p1) % (q1)))), (8, .long (lN (q1))), (25, .long (lN ((r1) % (s1)))), (23, .long (lN ((p1) % (q1)))), (21, .long (lN ((r1) / (s1)))), (19, .long (lN ((p1) / (q1)))), (18, .int (nI (0))), (17, .int (nI (1))), (0, .long (lN (p))), (2, .long (lN (q))), (4, .long (lN (r))), (6, .long (lN (s)))]) dX12_compare_175 (by decide) rfl ?_
              refine mm_goto (tgt := 23) dX12_compare_177 (by decide) ?_
              refine mn_sub [9, 10, 0, 1, 2, 3, 4, 11, 12, 13, 14] rfl ?_
              exact ih q1 (p1 % q1) s1 (r1 % s1) (-e) hq1 (by omega) hs1 (by omega) (by omega) (by omega) (hg.resolve_left (by omega)) (by rw [← he, hl, cmq_f (l := p1 % q1) (q := q1) (m := r1 % s1) (s := s1), Int.neg_mul, Int.mul_neg])
            · refine mm_lload dX12_compare_78 3 rfl ?_
              refine mm_lload dX12_compare_80 2 rfl ?_
              refine mn_lc_lt (tgt := 108) dX12_compare_82 dX12_compare_83 (by decide) (by omega) (by omega) (fun c82 => ?_) (fun c82 => ?_)
              · refine mm_iconst (v := (-1)) dX12_compare_108 (by decide) ?_
                refine mm_goto (tgt := 132) dX12_compare_109 (by decide) ?_
                refine mm_istore (L' := [(18, .int ((-1))), (25, .long (lN ((r1) % (s1)))), (23, .long (lN ((p1) % (q1)))), (21, .long (lN ((r1) / (s1)))), (19, .long (lN ((p1) / (q1)))), (17, .int (nI (1))), (16, .int (Int32.ofInt e)), (14, .long (lN (s1))), (12, .long (lN (r1))), (10, .long (lN (q1))), (8, .long (lN (p1))), (0, .long (lN (p))), (2, .long (lN (q))), (4, .long (lN (r))), (6, .long (lN (s)))]) dX12_compare_132 (by decide) rfl ?_
                refine mm_lload dX12_compare_134 4 rfl ?_
                refine mm_lload dX12_compare_136 3 rfl ?_
                refine mn_lc_le (tgt := 146) dX12_compare_138 dX12_compare_139 (by decide) (by omega) (by omega) (fun c138 => ?_) (fun c138 => ?_)
                · refine mm_iload dX12_compare_146 0 rfl ?_
                  refine mm_istore (L' := [(18, .int ((-1))), (25, .long (lN ((r1) % (s1)))), (23, .long (lN ((p1) % (q1)))), (21, .long (lN ((r1) / (s1)))), (19, .long (lN ((p1) / (q1)))), (17, .int (nI (1))), (16, .int (Int32.ofInt e)), (14, .long (lN (s1))), (12, .long (lN (r1))), (10, .long (lN (q1))), (8, .long (lN (p1))), (0, .long (lN (p))), (2, .long (lN (q))), (4, .long (lN (r))), (6, .long (lN (s)))]) dX12_compare_148 (by decide) rfl ?_
                  refine mm_iconst (v := nI 0) dX12_compare_150 (by decide) ?_
                  refine mm_istore (L' := [(17, .int (nI (0))), (18, .int ((-1))), (25, .long (lN ((r1) % (s1)))), (23, .long (lN ((p1) % (q1)))), (21, .long (lN ((r1) / (s1)))), (19, .long (lN ((p1) / (q1)))), (16, .int (Int32.ofInt e)), (14, .long (lN (s1))), (12, .long (lN (r1))), (10, .long (lN (q1))), (8, .long (lN (p1))), (0, .long (lN (p))), (2, .long (lN (q))), (4, .long (lN (r))), (6, .long (lN (s)))]) dX12_compare_151 (by decide) rfl ?_
                  refine mm_goto (tgt := 177) dX12_compare_153 (by decide) ?_
                  refine mm_goto (tgt := 23) dX12_compare_177 (by decide) ?_
                  refine mm_iload dX12_compare_23 0 rfl ?_
                  refine mn_if_eq (tgt := 180) dX12_compare_25 (by decide) (by omega) (fun c25 => ?_) (fun c25 => ?_)
                  · have ee : cm3 (p1 * s1) (r1 * q1) = -1 := by
                      by_cases hxy : p1 / q1 = r1 / s1
                      · rw [cmq_l hxy, cmq_0 hq0 hs0 (by omega)]; first | exact cm3_lt (by omega) | exact cm3_gt (by omega) | exact cm3_e (by omega)
                      · rw [cmq_w hq0 hs0 hxy]; first | exact cm3_lt (by omega) | exact cm3_gt (by omega) | exact cm3_e (by omega)
                    refine mm_iload dX12_compare_180 6 rfl ?_
                    refine mm_iload dX12_compare_182 1 rfl ?_
                    refine mn_top (u := .int (Int32.ofInt (-1))) (congrArg Value.int (by decide)) ?_
                    refine mm_imul dX12_compare_184 ?_
                    exact mm_iret dX12_compare_185 rfl ⟨rfl, by rw [i32_mul, ← he, ee]⟩
                  · exact absurd rfl c25
                · refine mm_iconst (v := nI 1) dX12_compare_142 (by decide) ?_
                  refine mm_goto (tgt := 148) dX12_compare_143 (by decide) ?_
                  refine mm_istore (L' := [(18, .int (nI (1))), (25, .long (lN ((r1) % (s1)))), (23, .long (lN ((p1) % (q1)))), (21, .long (lN ((r1) / (s1)))), (19, .long (lN ((p1) / (q1)))), (17, .int (nI (1))), (16, .int (Int32.ofInt e)), (14, .long (lN (s1))), (12, .long (lN (r1))), (10, .long (lN (q1))), (8, .long (lN (p1))), (0, .long (lN (p))), (2, .long (lN (q))), (4, .long (lN (r))), (6, .long (lN (s)))]) dX12_compare_148 (by decide) rfl ?_
                  refine mm_iconst (v := nI 0) dX12_compare_150 (by decide) ?_
                  refine mm_istore (L' := [(17, .int (nI (0))), (18, .int (nI (1))), (25, .long (lN ((r1) % (s1)))), (23, .long (lN ((p1) % (q1)))), (21, .long (lN ((r1) / (s1)))), (19, .long (lN ((p1) / (q1)))), (16, .int (Int32.ofInt e)), (14, .long (lN (s1))), (12, .long (lN (r1))), (10, .long (lN (q1))), (8, .long (lN (p1))), (0, .long (lN (p))), (2, .long (lN (q))), (4, .long (lN (r))), (6, .long (lN (s)))]) dX12_compare_151 (by decide) rfl ?_
                  refine mm_goto (tgt := 177) dX12_compare_153 (by decide) ?_
                  refine mm_goto (tgt := 23) dX12_compare_177 (by decide) ?_
                  refine mm_iload dX12_compare_23 0 rfl ?_
                  refine mn_if_eq (tgt := 180) dX12_compare_25 (by decide) (by omega) (fun c25 => ?_) (fun c25 => ?_)
                  · have ee : cm3 (p1 * s1) (r1 * q1) = 1 := by
                      by_cases hxy : p1 / q1 = r1 / s1
                      · rw [cmq_l hxy, cmq_0 hq0 hs0 (by omega)]; first | exact cm3_lt (by omega) | exact cm3_gt (by omega) | exact cm3_e (by omega)
                      · rw [cmq_w hq0 hs0 hxy]; first | exact cm3_lt (by omega) | exact cm3_gt (by omega) | exact cm3_e (by omega)
                    refine mm_iload dX12_compare_180 6 rfl ?_
                    refine mm_iload dX12_compare_182 1 rfl ?_
                    refine mn_top (u := .int (Int32.ofInt (1))) (congrArg Value.int (by decide)) ?_
                    refine mm_imul dX12_compare_184 ?_
                    exact mm_iret dX12_compare_185 rfl ⟨rfl, by rw [i32_mul, ← he, ee]⟩
                  · exact absurd rfl c25
              · refine mm_lload dX12_compare_86 3 rfl ?_
                refine mm_lload dX12_compare_88 2 rfl ?_
                refine mn_lc_ne (tgt := 112) dX12_compare_90 dX12_compare_91 (by decide) (by omega) (by omega) (fun c90 => ?_) (fun c90 => ?_)
                · refine mm_lload dX12_compare_112 3 rfl ?_
                  refine mm_lload dX12_compare_114 2 rfl ?_
                  refine mn_lc_ne (tgt := 131) dX12_compare_116 dX12_compare_117 (by decide) (by omega) (by omega) (fun c116 => ?_) (fun c116 => ?_)
                  · refine mm_iconst (v := nI 1) dX12_compare_131 (by decide) ?_
                    refine mm_istore (L' := [(18, .int (nI (1))), (25, .long (lN ((r1) % (s1)))), (23, .long (lN ((p1) % (q1)))), (21, .long (lN ((r1) / (s1)))), (19, .long (lN ((p1) / (q1)))), (17, .int (nI (1))), (16, .int (Int32.ofInt e)), (14, .long (lN (s1))), (12, .long (lN (r1))), (10, .long (lN (q1))), (8, .long (lN (p1))), (0, .long (lN (p))), (2, .long (lN (q))), (4, .long (lN (r))), (6, .long (lN (s)))]) dX12_compare_132 (by decide) rfl ?_
                    refine mm_lload dX12_compare_134 4 rfl ?_
                    refine mm_lload dX12_compare_136 3 rfl ?_
                    refine mn_lc_le (tgt := 146) dX12_compare_138 dX12_compare_139 (by decide) (by omega) (by omega) (fun c138 => ?_) (fun c138 => ?_)
                    · refine mm_iload dX12_compare_146 0 rfl ?_
                      refine mm_istore (L' := [(18, .int (nI (1))), (25, .long (lN ((r1) % (s1)))), (23, .long (lN ((p1) % (q1)))), (21, .long (lN ((r1) / (s1)))), (19, .long (lN ((p1) / (q1)))), (17, .int (nI (1))), (16, .int (Int32.ofInt e)), (14, .long (lN (s1))), (12, .long (lN (r1))), (10, .long (lN (q1))), (8, .long (lN (p1))), (0, .long (lN (p))), (2, .long (lN (q))), (4, .long (lN (r))), (6, .long (lN (s)))]) dX12_compare_148 (by decide) rfl ?_
                      refine mm_iconst (v := nI 0) dX12_compare_150 (by decide) ?_
                      refine mm_istore (L' := [(17, .int (nI (0))), (18, .int (nI (1))), (25, .long (lN ((r1) % (s1)))), (23, .long (lN ((p1) % (q1)))), (21, .long (lN ((r1) / (s1)))), (19, .long (lN ((p1) / (q1)))), (16, .int (Int32.ofInt e)), (14, .long (lN (s1))), (12, .long (lN (r1))), (10, .long (lN (q1))), (8, .long (lN (p1))), (0, .long (lN (p))), (2, .long (lN (q))), (4, .long (lN (r))), (6, .long (lN (s)))]) dX12_compare_151 (by decide) rfl ?_
                      refine mm_goto (tgt := 177) dX12_compare_153 (by decide) ?_
                      refine mm_goto (tgt := 23) dX12_compare_177 (by decide) ?_
                      refine mm_iload dX12_compare_23 0 rfl ?_
                      refine mn_if_eq (tgt := 180) dX12_compare_25 (by decide) (by omega) (fun c25 => ?_) (fun c25 => ?_)
                      · have ee : cm3 (p1 * s1) (r1 * q1) = 1 := by
                          by_cases hxy : p1 / q1 = r1 / s1
                          · rw [cmq_l hxy, cmq_0 hq0 hs0 (by omega)]; first | exact cm3_lt (by omega) | exact cm3_gt (by omega) | exact cm3_e (by omega)
                          · rw [cmq_w hq0 hs0 hxy]; first | exact cm3_lt (by omega) | exact cm3_gt (by omega) | exact cm3_e (by omega)
                        refine mm_iload dX12_compare_180 6 rfl ?_
                        refine mm_iload dX12_compare_182 1 rfl ?_
                        refine mn_top (u := .int (Int32.ofInt (1))) (congrArg Value.int (by decide)) ?_
                        refine mm_imul dX12_compare_184 ?_
                        exact mm_iret dX12_compare_185 rfl ⟨rfl, by rw [i32_mul, ← he, ee]⟩
                      · exact absurd rfl c25
                    · refine mm_iconst (v := nI 1) dX12_compare_142 (by decide) ?_
                      refine mm_goto (tgt := 148) dX12_compare_143 (by decide) ?_
                      refine mm_istore (L' := [(18, .int (nI (1))), (25, .long (lN ((r1) % (s1)))), (23, .long (lN ((p1) % (q1)))), (21, .long (lN ((r1) / (s1)))), (19, .long (lN ((p1) / (q1)))), (17, .int (nI (1))), (16, .int (Int32.ofInt e)), (14, .long (lN (s1))), (12, .long (lN (r1))), (10, .long (lN (q1))), (8, .long (lN (p1))), (0, .long (lN (p))), (2, .long (lN (q))), (4, .long (lN (r))), (6, .long (lN (s)))]) dX12_compare_148 (by decide) rfl ?_
                      refine mm_iconst (v := nI 0) dX12_compare_150 (by decide) ?_
                      refine mm_istore (L' := [(17, .int (nI (0))), (18, .int (nI (1))), (25, .long (lN ((r1) % (s1)))), (23, .long (lN ((p1) % (q1)))), (21, .long (lN ((r1) / (s1)))), (19, .long (lN ((p1) / (q1)))), (16, .int (Int32.ofInt e)), (14, .long (lN (s1))), (12, .long (lN (r1))), (10, .long (lN (q1))), (8, .long (lN (p1))), (0, .long (lN (p))), (2, .long (lN (q))), (4, .long (lN (r))), (6, .long (lN (s)))]) dX12_compare_151 (by decide) rfl ?_
                      refine mm_goto (tgt := 177) dX12_compare_153 (by decide) ?_
                      refine mm_goto (tgt := 23) dX12_compare_177 (by decide) ?_
                      refine mm_iload dX12_compare_23 0 rfl ?_
                      refine mn_if_eq (tgt := 180) dX12_compare_25 (by decide) (by omega) (fun c25 => ?_) (fun c25 => ?_)
                      · have ee : cm3 (p1 * s1) (r1 * q1) = 1 := by
                          by_cases hxy : p1 / q1 = r1 / s1
                          · rw [cmq_l hxy, cmq_0 hq0 hs0 (by omega)]; first | exact cm3_lt (by omega) | exact cm3_gt (by omega) | exact cm3_e (by omega)
                          · rw [cmq_w hq0 hs0 hxy]; first | exact cm3_lt (by omega) | exact cm3_gt (by omega) | exact cm3_e (by omega)
                        refine mm_iload dX12_compare_180 6 rfl ?_
                        refine mm_iload dX12_compare_182 1 rfl ?_
                        refine mn_top (u := .int (Int32.ofInt (1))) (congrArg Value.int (by decide)) ?_
                        refine mm_imul dX12_compare_184 ?_
                        exact mm_iret dX12_compare_185 rfl ⟨rfl, by rw [i32_mul, ← he, ee]⟩
                      · exact absurd rfl c25
                  · refine mm_lload dX12_compare_120 1 rfl ?_
                    refine mm_lconst (v := lN 0) dX12_compare_122 (by decide) ?_
                    refine mn_lc_ne (tgt := 131) dX12_compare_123 dX12_compare_124 (by decide) (by omega) (by omega) (fun c123 => ?_) (fun c123 => ?_)
                    · refine mm_iconst (v := nI 1) dX12_compare_131 (by decide) ?_
                      refine mm_istore (L' := [(18, .int (nI (1))), (25, .long (lN ((r1) % (s1)))), (23, .long (lN ((p1) % (q1)))), (21, .long (lN ((r1) / (s1)))), (19, .long (lN ((p1) / (q1)))), (17, .int (nI (1))), (16, .int (Int32.ofInt e)), (14, .long (lN (s1))), (12, .long (lN (r1))), (10, .long (lN (q1))), (8, .long (lN (p1))), (0, .long (lN (p))), (2, .long (lN (q))), (4, .long (lN (r))), (6, .long (lN (s)))]) dX12_compare_132 (by decide) rfl ?_
                      refine mm_lload dX12_compare_134 4 rfl ?_
                      refine mm_lload dX12_compare_136 3 rfl ?_
                      refine mn_lc_le (tgt := 146) dX12_compare_138 dX12_compare_139 (by decide) (by omega) (by omega) (fun c138 => ?_) (fun c138 => ?_)
                      · refine mm_iload dX12_compare_146 0 rfl ?_
                        refine mm_istore (L' := [(18, .int (nI (1))), (25, .long (lN ((r1) % (s1)))), (23, .long (lN ((p1) % (q1)))), (21, .long (lN ((r1) / (s1)))), (19, .long (lN ((p1) / (q1)))), (17, .int (nI (1))), (16, .int (Int32.ofInt e)), (14, .long (lN (s1))), (12, .long (lN (r1))), (10, .long (lN (q1))), (8, .long (lN (p1))), (0, .long (lN (p))), (2, .long (lN (q))), (4, .long (lN (r))), (6, .long (lN (s)))]) dX12_compare_148 (by decide) rfl ?_
                        refine mm_iconst (v := nI 0) dX12_compare_150 (by decide) ?_
                        refine mm_istore (L' := [(17, .int (nI (0))), (18, .int (nI (1))), (25, .long (lN ((r1) % (s1)))), (23, .long (lN ((p1) % (q1)))), (21, .long (lN ((r1) / (s1)))), (19, .long (lN ((p1) / (q1)))), (16, .int (Int32.ofInt e)), (14, .long (lN (s1))), (12, .long (lN (r1))), (10, .long (lN (q1))), (8, .long (lN (p1))), (0, .long (lN (p))), (2, .long (lN (q))), (4, .long (lN (r))), (6, .long (lN (s)))]) dX12_compare_151 (by decide) rfl ?_
                        refine mm_goto (tgt := 177) dX12_compare_153 (by decide) ?_
                        refine mm_goto (tgt := 23) dX12_compare_177 (by decide) ?_
                        refine mm_iload dX12_compare_23 0 rfl ?_
                        refine mn_if_eq (tgt := 180) dX12_compare_25 (by decide) (by omega) (fun c25 => ?_) (fun c25 => ?_)
                        · have ee : cm3 (p1 * s1) (r1 * q1) = 1 := by
                            by_cases hxy : p1 / q1 = r1 / s1
                            · rw [cmq_l hxy, cmq_0 hq0 hs0 (by omega)]; first | exact cm3_lt (by omega) | exact cm3_gt (by omega) | exact cm3_e (by omega)
                            · rw [cmq_w hq0 hs0 hxy]; first | exact cm3_lt (by omega) | exact cm3_gt (by omega) | exact cm3_e (by omega)
                          refine mm_iload dX12_compare_180 6 rfl ?_
                          refine mm_iload dX12_compare_182 1 rfl ?_
                          refine mn_top (u := .int (Int32.ofInt (1))) (congrArg Value.int (by decide)) ?_
                          refine mm_imul dX12_compare_184 ?_
                          exact mm_iret dX12_compare_185 rfl ⟨rfl, by rw [i32_mul, ← he, ee]⟩
                        · exact absurd rfl c25
                      · refine mm_iconst (v := nI 1) dX12_compare_142 (by decide) ?_
                        refine mm_goto (tgt := 148) dX12_compare_143 (by decide) ?_
                        refine mm_istore (L' := [(18, .int (nI (1))), (25, .long (lN ((r1) % (s1)))), (23, .long (lN ((p1) % (q1)))), (21, .long (lN ((r1) / (s1)))), (19, .long (lN ((p1) / (q1)))), (17, .int (nI (1))), (16, .int (Int32.ofInt e)), (14, .long (lN (s1))), (12, .long (lN (r1))), (10, .long (lN (q1))), (8, .long (lN (p1))), (0, .long (lN (p))), (2, .long (lN (q))), (4, .long (lN (r))), (6, .long (lN (s)))]) dX12_compare_148 (by decide) rfl ?_
                        refine mm_iconst (v := nI 0) dX12_compare_150 (by decide) ?_
                        refine mm_istore (L' := [(17, .int (nI (0))), (18, .int (nI (1))), (25, .long (lN ((r1) % (s1)))), (23, .long (lN ((p1) % (q1)))), (21, .long (lN ((r1) / (s1)))), (19, .long (lN ((p1) / (q1)))), (16, .int (Int32.ofInt e)), (14, .long (lN (s1))), (12, .long (lN (r1))), (10, .long (lN (q1))), (8, .long (lN (p1))), (0, .long (lN (p))), (2, .long (lN (q))), (4, .long (lN (r))), (6, .long (lN (s)))]) dX12_compare_151 (by decide) rfl ?_
                        refine mm_goto (tgt := 177) dX12_compare_153 (by decide) ?_
                        refine mm_goto (tgt := 23) dX12_compare_177 (by decide) ?_
                        refine mm_iload dX12_compare_23 0 rfl ?_
                        refine mn_if_eq (tgt := 180) dX12_compare_25 (by decide) (by omega) (fun c25 => ?_) (fun c25 => ?_)
                        · have ee : cm3 (p1 * s1) (r1 * q1) = 1 := by
                            by_cases hxy : p1 / q1 = r1 / s1
                            · rw [cmq_l hxy, cmq_0 hq0 hs0 (by omega)]; first | exact cm3_lt (by omega) | exact cm3_gt (by omega) | exact cm3_e (by omega)
                            · rw [cmq_w hq0 hs0 hxy]; first | exact cm3_lt (by omega) | exact cm3_gt (by omega) | exact cm3_e (by omega)
                          refine mm_iload dX12_compare_180 6 rfl ?_
                          refine mm_iload dX12_compare_182 1 rfl ?_
                          refine mn_top (u := .int (Int32.ofInt (1))) (congrArg Value.int (by decide)) ?_
                          refine mm_imul dX12_compare_184 ?_
                          exact mm_iret dX12_compare_185 rfl ⟨rfl, by rw [i32_mul, ← he, ee]⟩
                        · exact absurd rfl c25
                    · refine mm_iconst (v := nI 0) dX12_compare_127 (by decide) ?_
                      refine mm_goto (tgt := 132) dX12_compare_128 (by decide) ?_
                      refine mm_istore (L' := [(18, .int (nI (0))), (25, .long (lN ((r1) % (s1)))), (23, .long (lN ((p1) % (q1)))), (21, .long (lN ((r1) / (s1)))), (19, .long (lN ((p1) / (q1)))), (17, .int (nI (1))), (16, .int (Int32.ofInt e)), (14, .long (lN (s1))), (12, .long (lN (r1))), (10, .long (lN (q1))), (8, .long (lN (p1))), (0, .long (lN (p))), (2, .long (lN (q))), (4, .long (lN (r))), (6, .long (lN (s)))]) dX12_compare_132 (by decide) rfl ?_
                      refine mm_lload dX12_compare_134 4 rfl ?_
                      refine mm_lload dX12_compare_136 3 rfl ?_
                      refine mn_lc_le (tgt := 146) dX12_compare_138 dX12_compare_139 (by decide) (by omega) (by omega) (fun c138 => ?_) (fun c138 => ?_)
                      · refine mm_iload dX12_compare_146 0 rfl ?_
                        refine mm_istore (L' := [(18, .int (nI (0))), (25, .long (lN ((r1) % (s1)))), (23, .long (lN ((p1) % (q1)))), (21, .long (lN ((r1) / (s1)))), (19, .long (lN ((p1) / (q1)))), (17, .int (nI (1))), (16, .int (Int32.ofInt e)), (14, .long (lN (s1))), (12, .long (lN (r1))), (10, .long (lN (q1))), (8, .long (lN (p1))), (0, .long (lN (p))), (2, .long (lN (q))), (4, .long (lN (r))), (6, .long (lN (s)))]) dX12_compare_148 (by decide) rfl ?_
                        refine mm_iconst (v := nI 0) dX12_compare_150 (by decide) ?_
                        refine mm_istore (L' := [(17, .int (nI (0))), (18, .int (nI (0))), (25, .long (lN ((r1) % (s1)))), (23, .long (lN ((p1) % (q1)))), (21, .long (lN ((r1) / (s1)))), (19, .long (lN ((p1) / (q1)))), (16, .int (Int32.ofInt e)), (14, .long (lN (s1))), (12, .long (lN (r1))), (10, .long (lN (q1))), (8, .long (lN (p1))), (0, .long (lN (p))), (2, .long (lN (q))), (4, .long (lN (r))), (6, .long (lN (s)))]) dX12_compare_151 (by decide) rfl ?_
                        refine mm_goto (tgt := 177) dX12_compare_153 (by decide) ?_
                        refine mm_goto (tgt := 23) dX12_compare_177 (by decide) ?_
                        refine mm_iload dX12_compare_23 0 rfl ?_
                        refine mn_if_eq (tgt := 180) dX12_compare_25 (by decide) (by omega) (fun c25 => ?_) (fun c25 => ?_)
                        · have ee : cm3 (p1 * s1) (r1 * q1) = 0 := by
                            by_cases hxy : p1 / q1 = r1 / s1
                            · rw [cmq_l hxy, cmq_0 hq0 hs0 (by omega)]; first | exact cm3_lt (by omega) | exact cm3_gt (by omega) | exact cm3_e (by omega)
                            · rw [cmq_w hq0 hs0 hxy]; first | exact cm3_lt (by omega) | exact cm3_gt (by omega) | exact cm3_e (by omega)
                          refine mm_iload dX12_compare_180 6 rfl ?_
                          refine mm_iload dX12_compare_182 1 rfl ?_
                          refine mn_top (u := .int (Int32.ofInt (0))) (congrArg Value.int (by decide)) ?_
                          refine mm_imul dX12_compare_184 ?_
                          exact mm_iret dX12_compare_185 rfl ⟨rfl, by rw [i32_mul, ← he, ee]⟩
                        · exact absurd rfl c25
                      · refine mm_iconst (v := nI 1) dX12_compare_142 (by decide) ?_
                        refine mm_goto (tgt := 148) dX12_compare_143 (by decide) ?_
                        refine mm_istore (L' := [(18, .int (nI (1))), (25, .long (lN ((r1) % (s1)))), (23, .long (lN ((p1) % (q1)))), (21, .long (lN ((r1) / (s1)))), (19, .long (lN ((p1) / (q1)))), (17, .int (nI (1))), (16, .int (Int32.ofInt e)), (14, .long (lN (s1))), (12, .long (lN (r1))), (10, .long (lN (q1))), (8, .long (lN (p1))), (0, .long (lN (p))), (2, .long (lN (q))), (4, .long (lN (r))), (6, .long (lN (s)))]) dX12_compare_148 (by decide) rfl ?_
                        refine mm_iconst (v := nI 0) dX12_compare_150 (by decide) ?_
                        refine mm_istore (L' := [(17, .int (nI (0))), (18, .int (nI (1))), (25, .long (lN ((r1) % (s1)))), (23, .long (lN ((p1) % (q1)))), (21, .long (lN ((r1) / (s1)))), (19, .long (lN ((p1) / (q1)))), (16, .int (Int32.ofInt e)), (14, .long (lN (s1))), (12, .long (lN (r1))), (10, .long (lN (q1))), (8, .long (lN (p1))), (0, .long (lN (p))), (2, .long (lN (q))), (4, .long (lN (r))), (6, .long (lN (s)))]) dX12_compare_151 (by decide) rfl ?_
                        refine mm_goto (tgt := 177) dX12_compare_153 (by decide) ?_
                        refine mm_goto (tgt := 23) dX12_compare_177 (by decide) ?_
                        refine mm_iload dX12_compare_23 0 rfl ?_
                        refine mn_if_eq (tgt := 180) dX12_compare_25 (by decide) (by omega) (fun c25 => ?_) (fun c25 => ?_)
                        · have ee : cm3 (p1 * s1) (r1 * q1) = 1 := by
                            by_cases hxy : p1 / q1 = r1 / s1
                            · rw [cmq_l hxy, cmq_0 hq0 hs0 (by omega)]; first | exact cm3_lt (by omega) | exact cm3_gt (by omega) | exact cm3_e (by omega)
                            · rw [cmq_w hq0 hs0 hxy]; first | exact cm3_lt (by omega) | exact cm3_gt (by omega) | exact cm3_e (by omega)
                          refine mm_iload dX12_compare_180 6 rfl ?_
                          refine mm_iload dX12_compare_182 1 rfl ?_
                          refine mn_top (u := .int (Int32.ofInt (1))) (congrArg Value.int (by decide)) ?_
                          refine mm_imul dX12_compare_184 ?_
                          exact mm_iret dX12_compare_185 rfl ⟨rfl, by rw [i32_mul, ← he, ee]⟩
                        · exact absurd rfl c25
                · refine mm_lload dX12_compare_94 1 rfl ?_
                  refine mm_lconst (v := lN 0) dX12_compare_96 (by decide) ?_
                  refine mn_lc_ne (tgt := 112) dX12_compare_97 dX12_compare_98 (by decide) (by omega) (by omega) (fun c97 => ?_) (fun c97 => ?_)
                  · refine mm_lload dX12_compare_112 3 rfl ?_
                    refine mm_lload dX12_compare_114 2 rfl ?_
                    refine mn_lc_ne (tgt := 131) dX12_compare_116 dX12_compare_117 (by decide) (by omega) (by omega) (fun c116 => ?_) (fun c116 => ?_)
                    · refine mm_iconst (v := nI 1) dX12_compare_131 (by decide) ?_
                      refine mm_istore (L' := [(18, .int (nI (1))), (25, .long (lN ((r1) % (s1)))), (23, .long (lN ((p1) % (q1)))), (21, .long (lN ((r1) / (s1)))), (19, .long (lN ((p1) / (q1)))), (17, .int (nI (1))), (16, .int (Int32.ofInt e)), (14, .long (lN (s1))), (12, .long (lN (r1))), (10, .long (lN (q1))), (8, .long (lN (p1))), (0, .long (lN (p))), (2, .long (lN (q))), (4, .long (lN (r))), (6, .long (lN (s)))]) dX12_compare_132 (by decide) rfl ?_
                      refine mm_lload dX12_compare_134 4 rfl ?_
                      refine mm_lload dX12_compare_136 3 rfl ?_
                      refine mn_lc_le (tgt := 146) dX12_compare_138 dX12_compare_139 (by decide) (by omega) (by omega) (fun c138 => ?_) (fun c138 => ?_)
                      · refine mm_iload dX12_compare_146 0 rfl ?_
                        refine mm_istore (L' := [(18, .int (nI (1))), (25, .long (lN ((r1) % (s1)))), (23, .long (lN ((p1) % (q1)))), (21, .long (lN ((r1) / (s1)))), (19, .long (lN ((p1) / (q1)))), (17, .int (nI (1))), (16, .int (Int32.ofInt e)), (14, .long (lN (s1))), (12, .long (lN (r1))), (10, .long (lN (q1))), (8, .long (lN (p1))), (0, .long (lN (p))), (2, .long (lN (q))), (4, .long (lN (r))), (6, .long (lN (s)))]) dX12_compare_148 (by decide) rfl ?_
                        refine mm_iconst (v := nI 0) dX12_compare_150 (by decide) ?_
                        refine mm_istore (L' := [(17, .int (nI (0))), (18, .int (nI (1))), (25, .long (lN ((r1) % (s1)))), (23, .long (lN ((p1) % (q1)))), (21, .long (lN ((r1) / (s1)))), (19, .long (lN ((p1) / (q1)))), (16, .int (Int32.ofInt e)), (14, .long (lN (s1))), (12, .long (lN (r1))), (10, .long (lN (q1))), (8, .long (lN (p1))), (0, .long (lN (p))), (2, .long (lN (q))), (4, .long (lN (r))), (6, .long (lN (s)))]) dX12_compare_151 (by decide) rfl ?_
                        refine mm_goto (tgt := 177) dX12_compare_153 (by decide) ?_
                        refine mm_goto (tgt := 23) dX12_compare_177 (by decide) ?_
                        refine mm_iload dX12_compare_23 0 rfl ?_
                        refine mn_if_eq (tgt := 180) dX12_compare_25 (by decide) (by omega) (fun c25 => ?_) (fun c25 => ?_)
                        · have ee : cm3 (p1 * s1) (r1 * q1) = 1 := by
                            by_cases hxy : p1 / q1 = r1 / s1
                            · rw [cmq_l hxy, cmq_0 hq0 hs0 (by omega)]; first | exact cm3_lt (by omega) | exact cm3_gt (by omega) | exact cm3_e (by omega)
                            · rw [cmq_w hq0 hs0 hxy]; first | exact cm3_lt (by omega) | exact cm3_gt (by omega) | exact cm3_e (by omega)
                          refine mm_iload dX12_compare_180 6 rfl ?_
                          refine mm_iload dX12_compare_182 1 rfl ?_
                          refine mn_top (u := .int (Int32.ofInt (1))) (congrArg Value.int (by decide)) ?_
                          refine mm_imul dX12_compare_184 ?_
                          exact mm_iret dX12_compare_185 rfl ⟨rfl, by rw [i32_mul, ← he, ee]⟩
                        · exact absurd rfl c25
                      · refine mm_iconst (v := nI 1) dX12_compare_142 (by decide) ?_
                        refine mm_goto (tgt := 148) dX12_compare_143 (by decide) ?_
                        refine mm_istore (L' := [(18, .int (nI (1))), (25, .long (lN ((r1) % (s1)))), (23, .long (lN ((p1) % (q1)))), (21, .long (lN ((r1) / (s1)))), (19, .long (lN ((p1) / (q1)))), (17, .int (nI (1))), (16, .int (Int32.ofInt e)), (14, .long (lN (s1))), (12, .long (lN (r1))), (10, .long (lN (q1))), (8, .long (lN (p1))), (0, .long (lN (p))), (2, .long (lN (q))), (4, .long (lN (r))), (6, .long (lN (s)))]) dX12_compare_148 (by decide) rfl ?_
                        refine mm_iconst (v := nI 0) dX12_compare_150 (by decide) ?_
                        refine mm_istore (L' := [(17, .int (nI (0))), (18, .int (nI (1))), (25, .long (lN ((r1) % (s1)))), (23, .long (lN ((p1) % (q1)))), (21, .long (lN ((r1) / (s1)))), (19, .long (lN ((p1) / (q1)))), (16, .int (Int32.ofInt e)), (14, .long (lN (s1))), (12, .long (lN (r1))), (10, .long (lN (q1))), (8, .long (lN (p1))), (0, .long (lN (p))), (2, .long (lN (q))), (4, .long (lN (r))), (6, .long (lN (s)))]) dX12_compare_151 (by decide) rfl ?_
                        refine mm_goto (tgt := 177) dX12_compare_153 (by decide) ?_
                        refine mm_goto (tgt := 23) dX12_compare_177 (by decide) ?_
                        refine mm_iload dX12_compare_23 0 rfl ?_
                        refine mn_if_eq (tgt := 180) dX12_compare_25 (by decide) (by omega) (fun c25 => ?_) (fun c25 => ?_)
                        · have ee : cm3 (p1 * s1) (r1 * q1) = 1 := by
                            by_cases hxy : p1 / q1 = r1 / s1
                            · rw [cmq_l hxy, cmq_0 hq0 hs0 (by omega)]; first | exact cm3_lt (by omega) | exact cm3_gt (by omega) | exact cm3_e (by omega)
                            · rw [cmq_w hq0 hs0 hxy]; first | exact cm3_lt (by omega) | exact cm3_gt (by omega) | exact cm3_e (by omega)
                          refine mm_iload dX12_compare_180 6 rfl ?_
                          refine mm_iload dX12_compare_182 1 rfl ?_
                          refine mn_top (u := .int (Int32.ofInt (1))) (congrArg Value.int (by decide)) ?_
                          refine mm_imul dX12_compare_184 ?_
                          exact mm_iret dX12_compare_185 rfl ⟨rfl, by rw [i32_mul, ← he, ee]⟩
                        · exact absurd rfl c25
                    · refine mm_lload dX12_compare_120 1 rfl ?_
                      refine mm_lconst (v := lN 0) dX12_compare_122 (by decide) ?_
                      refine mn_lc_ne (tgt := 131) dX12_compare_123 dX12_compare_124 (by decide) (by omega) (by omega) (fun c123 => ?_) (fun c123 => ?_)
                      · refine mm_iconst (v := nI 1) dX12_compare_131 (by decide) ?_
                        refine mm_istore (L' := [(18, .int (nI (1))), (25, .long (lN ((r1) % (s1)))), (23, .long (lN ((p1) % (q1)))), (21, .long (lN ((r1) / (s1)))), (19, .long (lN ((p1) / (q1)))), (17, .int (nI (1))), (16, .int (Int32.ofInt e)), (14, .long (lN (s1))), (12, .long (lN (r1))), (10, .long (lN (q1))), (8, .long (lN (p1))), (0, .long (lN (p))), (2, .long (lN (q))), (4, .long (lN (r))), (6, .long (lN (s)))]) dX12_compare_132 (by decide) rfl ?_
                        refine mm_lload dX12_compare_134 4 rfl ?_
                        refine mm_lload dX12_compare_136 3 rfl ?_
                        refine mn_lc_le (tgt := 146) dX12_compare_138 dX12_compare_139 (by decide) (by omega) (by omega) (fun c138 => ?_) (fun c138 => ?_)
                        · refine mm_iload dX12_compare_146 0 rfl ?_
                          refine mm_istore (L' := [(18, .int (nI (1))), (25, .long (lN ((r1) % (s1)))), (23, .long (lN ((p1) % (q1)))), (21, .long (lN ((r1) / (s1)))), (19, .long (lN ((p1) / (q1)))), (17, .int (nI (1))), (16, .int (Int32.ofInt e)), (14, .long (lN (s1))), (12, .long (lN (r1))), (10, .long (lN (q1))), (8, .long (lN (p1))), (0, .long (lN (p))), (2, .long (lN (q))), (4, .long (lN (r))), (6, .long (lN (s)))]) dX12_compare_148 (by decide) rfl ?_
                          refine mm_iconst (v := nI 0) dX12_compare_150 (by decide) ?_
                          refine mm_istore (L' := [(17, .int (nI (0))), (18, .int (nI (1))), (25, .long (lN ((r1) % (s1)))), (23, .long (lN ((p1) % (q1)))), (21, .long (lN ((r1) / (s1)))), (19, .long (lN ((p1) / (q1)))), (16, .int (Int32.ofInt e)), (14, .long (lN (s1))), (12, .long (lN (r1))), (10, .long (lN (q1))), (8, .long (lN (p1))), (0, .long (lN (p))), (2, .long (lN (q))), (4, .long (lN (r))), (6, .long (lN (s)))]) dX12_compare_151 (by decide) rfl ?_
                          refine mm_goto (tgt := 177) dX12_compare_153 (by decide) ?_
                          refine mm_goto (tgt := 23) dX12_compare_177 (by decide) ?_
                          refine mm_iload dX12_compare_23 0 rfl ?_
                          refine mn_if_eq (tgt := 180) dX12_compare_25 (by decide) (by omega) (fun c25 => ?_) (fun c25 => ?_)
                          · have ee : cm3 (p1 * s1) (r1 * q1) = 1 := by
                              by_cases hxy : p1 / q1 = r1 / s1
                              · rw [cmq_l hxy, cmq_0 hq0 hs0 (by omega)]; first | exact cm3_lt (by omega) | exact cm3_gt (by omega) | exact cm3_e (by omega)
                              · rw [cmq_w hq0 hs0 hxy]; first | exact cm3_lt (by omega) | exact cm3_gt (by omega) | exact cm3_e (by omega)
                            refine mm_iload dX12_compare_180 6 rfl ?_
                            refine mm_iload dX12_compare_182 1 rfl ?_
                            refine mn_top (u := .int (Int32.ofInt (1))) (congrArg Value.int (by decide)) ?_
                            refine mm_imul dX12_compare_184 ?_
                            exact mm_iret dX12_compare_185 rfl ⟨rfl, by rw [i32_mul, ← he, ee]⟩
                          · exact absurd rfl c25
                        · refine mm_iconst (v := nI 1) dX12_compare_142 (by decide) ?_
                          refine mm_goto (tgt := 148) dX12_compare_143 (by decide) ?_
                          refine mm_istore (L' := [(18, .int (nI (1))), (25, .long (lN ((r1) % (s1)))), (23, .long (lN ((p1) % (q1)))), (21, .long (lN ((r1) / (s1)))), (19, .long (lN ((p1) / (q1)))), (17, .int (nI (1))), (16, .int (Int32.ofInt e)), (14, .long (lN (s1))), (12, .long (lN (r1))), (10, .long (lN (q1))), (8, .long (lN (p1))), (0, .long (lN (p))), (2, .long (lN (q))), (4, .long (lN (r))), (6, .long (lN (s)))]) dX12_compare_148 (by decide) rfl ?_
                          refine mm_iconst (v := nI 0) dX12_compare_150 (by decide) ?_
                          refine mm_istore (L' := [(17, .int (nI (0))), (18, .int (nI (1))), (25, .long (lN ((r1) % (s1)))), (23, .long (lN ((p1) % (q1)))), (21, .long (lN ((r1) / (s1)))), (19, .long (lN ((p1) / (q1)))), (16, .int (Int32.ofInt e)), (14, .long (lN (s1))), (12, .long (lN (r1))), (10, .long (lN (q1))), (8, .long (lN (p1))), (0, .long (lN (p))), (2, .long (lN (q))), (4, .long (lN (r))), (6, .long (lN (s)))]) dX12_compare_151 (by decide) rfl ?_
                          refine mm_goto (tgt := 177) dX12_compare_153 (by decide) ?_
                          refine mm_goto (tgt := 23) dX12_compare_177 (by decide) ?_
                          refine mm_iload dX12_compare_23 0 rfl ?_
                          refine mn_if_eq (tgt := 180) dX12_compare_25 (by decide) (by omega) (fun c25 => ?_) (fun c25 => ?_)
                          · have ee : cm3 (p1 * s1) (r1 * q1) = 1 := by
                              by_cases hxy : p1 / q1 = r1 / s1
                              · rw [cmq_l hxy, cmq_0 hq0 hs0 (by omega)]; first | exact cm3_lt (by omega) | exact cm3_gt (by omega) | exact cm3_e (by omega)
                              · rw [cmq_w hq0 hs0 hxy]; first | exact cm3_lt (by omega) | exact cm3_gt (by omega) | exact cm3_e (by omega)
                            refine mm_iload dX12_compare_180 6 rfl ?_
                            refine mm_iload dX12_compare_182 1 rfl ?_
                            refine mn_top (u := .int (Int32.ofInt (1))) (congrArg Value.int (by decide)) ?_
                            refine mm_imul dX12_compare_184 ?_
                            exact mm_iret dX12_compare_185 rfl ⟨rfl, by rw [i32_mul, ← he, ee]⟩
                          · exact absurd rfl c25
                      · refine mm_iconst (v := nI 0) dX12_compare_127 (by decide) ?_
                        refine mm_goto (tgt := 132) dX12_compare_128 (by decide) ?_
                        refine mm_istore (L' := [(18, .int (nI (0))), (25, .long (lN ((r1) % (s1)))), (23, .long (lN ((p1) % (q1)))), (21, .long (lN ((r1) / (s1)))), (19, .long (lN ((p1) / (q1)))), (17, .int (nI (1))), (16, .int (Int32.ofInt e)), (14, .long (lN (s1))), (12, .long (lN (r1))), (10, .long (lN (q1))), (8, .long (lN (p1))), (0, .long (lN (p))), (2, .long (lN (q))), (4, .long (lN (r))), (6, .long (lN (s)))]) dX12_compare_132 (by decide) rfl ?_
                        refine mm_lload dX12_compare_134 4 rfl ?_
                        refine mm_lload dX12_compare_136 3 rfl ?_
                        refine mn_lc_le (tgt := 146) dX12_compare_138 dX12_compare_139 (by decide) (by omega) (by omega) (fun c138 => ?_) (fun c138 => ?_)
                        · refine mm_iload dX12_compare_146 0 rfl ?_
                          refine mm_istore (L' := [(18, .int (nI (0))), (25, .long (lN ((r1) % (s1)))), (23, .long (lN ((p1) % (q1)))), (21, .long (lN ((r1) / (s1)))), (19, .long (lN ((p1) / (q1)))), (17, .int (nI (1))), (16, .int (Int32.ofInt e)), (14, .long (lN (s1))), (12, .long (lN (r1))), (10, .long (lN (q1))), (8, .long (lN (p1))), (0, .long (lN (p))), (2, .long (lN (q))), (4, .long (lN (r))), (6, .long (lN (s)))]) dX12_compare_148 (by decide) rfl ?_
                          refine mm_iconst (v := nI 0) dX12_compare_150 (by decide) ?_
                          refine mm_istore (L' := [(17, .int (nI (0))), (18, .int (nI (0))), (25, .long (lN ((r1) % (s1)))), (23, .long (lN ((p1) % (q1)))), (21, .long (lN ((r1) / (s1)))), (19, .long (lN ((p1) / (q1)))), (16, .int (Int32.ofInt e)), (14, .long (lN (s1))), (12, .long (lN (r1))), (10, .long (lN (q1))), (8, .long (lN (p1))), (0, .long (lN (p))), (2, .long (lN (q))), (4, .long (lN (r))), (6, .long (lN (s)))]) dX12_compare_151 (by decide) rfl ?_
                          refine mm_goto (tgt := 177) dX12_compare_153 (by decide) ?_
                          refine mm_goto (tgt := 23) dX12_compare_177 (by decide) ?_
                          refine mm_iload dX12_compare_23 0 rfl ?_
                          refine mn_if_eq (tgt := 180) dX12_compare_25 (by decide) (by omega) (fun c25 => ?_) (fun c25 => ?_)
                          · have ee : cm3 (p1 * s1) (r1 * q1) = 0 := by
                              by_cases hxy : p1 / q1 = r1 / s1
                              · rw [cmq_l hxy, cmq_0 hq0 hs0 (by omega)]; first | exact cm3_lt (by omega) | exact cm3_gt (by omega) | exact cm3_e (by omega)
                              · rw [cmq_w hq0 hs0 hxy]; first | exact cm3_lt (by omega) | exact cm3_gt (by omega) | exact cm3_e (by omega)
                            refine mm_iload dX12_compare_180 6 rfl ?_
                            refine mm_iload dX12_compare_182 1 rfl ?_
                            refine mn_top (u := .int (Int32.ofInt (0))) (congrArg Value.int (by decide)) ?_
                            refine mm_imul dX12_compare_184 ?_
                            exact mm_iret dX12_compare_185 rfl ⟨rfl, by rw [i32_mul, ← he, ee]⟩
                          · exact absurd rfl c25
                        · refine mm_iconst (v := nI 1) dX12_compare_142 (by decide) ?_
                          refine mm_goto (tgt := 148) dX12_compare_143 (by decide) ?_
                          refine mm_istore (L' := [(18, .int (nI (1))), (25, .long (lN ((r1) % (s1)))), (23, .long (lN ((p1) % (q1)))), (21, .long (lN ((r1) / (s1)))), (19, .long (lN ((p1) / (q1)))), (17, .int (nI (1))), (16, .int (Int32.ofInt e)), (14, .long (lN (s1))), (12, .long (lN (r1))), (10, .long (lN (q1))), (8, .long (lN (p1))), (0, .long (lN (p))), (2, .long (lN (q))), (4, .long (lN (r))), (6, .long (lN (s)))]) dX12_compare_148 (by decide) rfl ?_
                          refine mm_iconst (v := nI 0) dX12_compare_150 (by decide) ?_
                          refine mm_istore (L' := [(17, .int (nI (0))), (18, .int (nI (1))), (25, .long (lN ((r1) % (s1)))), (23, .long (lN ((p1) % (q1)))), (21, .long (lN ((r1) / (s1)))), (19, .long (lN ((p1) / (q1)))), (16, .int (Int32.ofInt e)), (14, .long (lN (s1))), (12, .long (lN (r1))), (10, .long (lN (q1))), (8, .long (lN (p1))), (0, .long (lN (p))), (2, .long (lN (q))), (4, .long (lN (r))), (6, .long (lN (s)))]) dX12_compare_151 (by decide) rfl ?_
                          refine mm_goto (tgt := 177) dX12_compare_153 (by decide) ?_
                          refine mm_goto (tgt := 23) dX12_compare_177 (by decide) ?_
                          refine mm_iload dX12_compare_23 0 rfl ?_
                          refine mn_if_eq (tgt := 180) dX12_compare_25 (by decide) (by omega) (fun c25 => ?_) (fun c25 => ?_)
                          · have ee : cm3 (p1 * s1) (r1 * q1) = 1 := by
                              by_cases hxy : p1 / q1 = r1 / s1
                              · rw [cmq_l hxy, cmq_0 hq0 hs0 (by omega)]; first | exact cm3_lt (by omega) | exact cm3_gt (by omega) | exact cm3_e (by omega)
                              · rw [cmq_w hq0 hs0 hxy]; first | exact cm3_lt (by omega) | exact cm3_gt (by omega) | exact cm3_e (by omega)
                            refine mm_iload dX12_compare_180 6 rfl ?_
                            refine mm_iload dX12_compare_182 1 rfl ?_
                            refine mn_top (u := .int (Int32.ofInt (1))) (congrArg Value.int (by decide)) ?_
                            refine mm_imul dX12_compare_184 ?_
                            exact mm_iret dX12_compare_185 rfl ⟨rfl, by rw [i32_mul, ← he, ee]⟩
                          · exact absurd rfl c25
                  · refine mm_lload dX12_compare_101 0 rfl ?_
                    refine mm_lconst (v := lN 0) dX12_compare_103 (by decide) ?_
                    refine mn_lc_le (tgt := 112) dX12_compare_104 dX12_compare_105 (by decide) (by omega) (by omega) (fun c104 => ?_) (fun c104 => ?_)
                    · refine mm_lload dX12_compare_112 3 rfl ?_
                      refine mm_lload dX12_compare_114 2 rfl ?_
                      refine mn_lc_ne (tgt := 131) dX12_compare_116 dX12_compare_117 (by decide) (by omega) (by omega) (fun c116 => ?_) (fun c116 => ?_)
                      · refine mm_iconst (v := nI 1) dX12_compare_131 (by decide) ?_
                        refine mm_istore (L' := [(18, .int (nI (1))), (25, .long (lN ((r1) % (s1)))), (23, .long (lN ((p1) % (q1)))), (21, .long (lN ((r1) / (s1)))), (19, .long (lN ((p1) / (q1)))), (17, .int (nI (1))), (16, .int (Int32.ofInt e)), (14, .long (lN (s1))), (12, .long (lN (r1))), (10, .long (lN (q1))), (8, .long (lN (p1))), (0, .long (lN (p))), (2, .long (lN (q))), (4, .long (lN (r))), (6, .long (lN (s)))]) dX12_compare_132 (by decide) rfl ?_
                        refine mm_lload dX12_compare_134 4 rfl ?_
                        refine mm_lload dX12_compare_136 3 rfl ?_
                        refine mn_lc_le (tgt := 146) dX12_compare_138 dX12_compare_139 (by decide) (by omega) (by omega) (fun c138 => ?_) (fun c138 => ?_)
                        · refine mm_iload dX12_compare_146 0 rfl ?_
                          refine mm_istore (L' := [(18, .int (nI (1))), (25, .long (lN ((r1) % (s1)))), (23, .long (lN ((p1) % (q1)))), (21, .long (lN ((r1) / (s1)))), (19, .long (lN ((p1) / (q1)))), (17, .int (nI (1))), (16, .int (Int32.ofInt e)), (14, .long (lN (s1))), (12, .long (lN (r1))), (10, .long (lN (q1))), (8, .long (lN (p1))), (0, .long (lN (p))), (2, .long (lN (q))), (4, .long (lN (r))), (6, .long (lN (s)))]) dX12_compare_148 (by decide) rfl ?_
                          refine mm_iconst (v := nI 0) dX12_compare_150 (by decide) ?_
                          refine mm_istore (L' := [(17, .int (nI (0))), (18, .int (nI (1))), (25, .long (lN ((r1) % (s1)))), (23, .long (lN ((p1) % (q1)))), (21, .long (lN ((r1) / (s1)))), (19, .long (lN ((p1) / (q1)))), (16, .int (Int32.ofInt e)), (14, .long (lN (s1))), (12, .long (lN (r1))), (10, .long (lN (q1))), (8, .long (lN (p1))), (0, .long (lN (p))), (2, .long (lN (q))), (4, .long (lN (r))), (6, .long (lN (s)))]) dX12_compare_151 (by decide) rfl ?_
                          refine mm_goto (tgt := 177) dX12_compare_153 (by decide) ?_
                          refine mm_goto (tgt := 23) dX12_compare_177 (by decide) ?_
                          refine mm_iload dX12_compare_23 0 rfl ?_
                          refine mn_if_eq (tgt := 180) dX12_compare_25 (by decide) (by omega) (fun c25 => ?_) (fun c25 => ?_)
                          · have ee : cm3 (p1 * s1) (r1 * q1) = 1 := by
                              by_cases hxy : p1 / q1 = r1 / s1
                              · rw [cmq_l hxy, cmq_0 hq0 hs0 (by omega)]; first | exact cm3_lt (by omega) | exact cm3_gt (by omega) | exact cm3_e (by omega)
                              · rw [cmq_w hq0 hs0 hxy]; first | exact cm3_lt (by omega) | exact cm3_gt (by omega) | exact cm3_e (by omega)
                            refine mm_iload dX12_compare_180 6 rfl ?_
                            refine mm_iload dX12_compare_182 1 rfl ?_
                            refine mn_top (u := .int (Int32.ofInt (1))) (congrArg Value.int (by decide)) ?_
                            refine mm_imul dX12_compare_184 ?_
                            exact mm_iret dX12_compare_185 rfl ⟨rfl, by rw [i32_mul, ← he, ee]⟩
                          · exact absurd rfl c25
                        · refine mm_iconst (v := nI 1) dX12_compare_142 (by decide) ?_
                          refine mm_goto (tgt := 148) dX12_compare_143 (by decide) ?_
                          refine mm_istore (L' := [(18, .int (nI (1))), (25, .long (lN ((r1) % (s1)))), (23, .long (lN ((p1) % (q1)))), (21, .long (lN ((r1) / (s1)))), (19, .long (lN ((p1) / (q1)))), (17, .int (nI (1))), (16, .int (Int32.ofInt e)), (14, .long (lN (s1))), (12, .long (lN (r1))), (10, .long (lN (q1))), (8, .long (lN (p1))), (0, .long (lN (p))), (2, .long (lN (q))), (4, .long (lN (r))), (6, .long (lN (s)))]) dX12_compare_148 (by decide) rfl ?_
                          refine mm_iconst (v := nI 0) dX12_compare_150 (by decide) ?_
                          refine mm_istore (L' := [(17, .int (nI (0))), (18, .int (nI (1))), (25, .long (lN ((r1) % (s1)))), (23, .long (lN ((p1) % (q1)))), (21, .long (lN ((r1) / (s1)))), (19, .long (lN ((p1) / (q1)))), (16, .int (Int32.ofInt e)), (14, .long (lN (s1))), (12, .long (lN (r1))), (10, .long (lN (q1))), (8, .long (lN (p1))), (0, .long (lN (p))), (2, .long (lN (q))), (4, .long (lN (r))), (6, .long (lN (s)))]) dX12_compare_151 (by decide) rfl ?_
                          refine mm_goto (tgt := 177) dX12_compare_153 (by decide) ?_
                          refine mm_goto (tgt := 23) dX12_compare_177 (by decide) ?_
                          refine mm_iload dX12_compare_23 0 rfl ?_
                          refine mn_if_eq (tgt := 180) dX12_compare_25 (by decide) (by omega) (fun c25 => ?_) (fun c25 => ?_)
                          · have ee : cm3 (p1 * s1) (r1 * q1) = 1 := by
                              by_cases hxy : p1 / q1 = r1 / s1
                              · rw [cmq_l hxy, cmq_0 hq0 hs0 (by omega)]; first | exact cm3_lt (by omega) | exact cm3_gt (by omega) | exact cm3_e (by omega)
                              · rw [cmq_w hq0 hs0 hxy]; first | exact cm3_lt (by omega) | exact cm3_gt (by omega) | exact cm3_e (by omega)
                            refine mm_iload dX12_compare_180 6 rfl ?_
                            refine mm_iload dX12_compare_182 1 rfl ?_
                            refine mn_top (u := .int (Int32.ofInt (1))) (congrArg Value.int (by decide)) ?_
                            refine mm_imul dX12_compare_184 ?_
                            exact mm_iret dX12_compare_185 rfl ⟨rfl, by rw [i32_mul, ← he, ee]⟩
                          · exact absurd rfl c25
                      · refine mm_lload dX12_compare_120 1 rfl ?_
                        refine mm_lconst (v := lN 0) dX12_compare_122 (by decide) ?_
                        refine mn_lc_ne (tgt := 131) dX12_compare_123 dX12_compare_124 (by decide) (by omega) (by omega) (fun c123 => ?_) (fun c123 => ?_)
                        · refine mm_iconst (v := nI 1) dX12_compare_131 (by decide) ?_
                          refine mm_istore (L' := [(18, .int (nI (1))), (25, .long (lN ((r1) % (s1)))), (23, .long (lN ((p1) % (q1)))), (21, .long (lN ((r1) / (s1)))), (19, .long (lN ((p1) / (q1)))), (17, .int (nI (1))), (16, .int (Int32.ofInt e)), (14, .long (lN (s1))), (12, .long (lN (r1))), (10, .long (lN (q1))), (8, .long (lN (p1))), (0, .long (lN (p))), (2, .long (lN (q))), (4, .long (lN (r))), (6, .long (lN (s)))]) dX12_compare_132 (by decide) rfl ?_
                          refine mm_lload dX12_compare_134 4 rfl ?_
                          refine mm_lload dX12_compare_136 3 rfl ?_
                          refine mn_lc_le (tgt := 146) dX12_compare_138 dX12_compare_139 (by decide) (by omega) (by omega) (fun c138 => ?_) (fun c138 => ?_)
                          · refine mm_iload dX12_compare_146 0 rfl ?_
                            refine mm_istore (L' := [(18, .int (nI (1))), (25, .long (lN ((r1) % (s1)))), (23, .long (lN ((p1) % (q1)))), (21, .long (lN ((r1) / (s1)))), (19, .long (lN ((p1) / (q1)))), (17, .int (nI (1))), (16, .int (Int32.ofInt e)), (14, .long (lN (s1))), (12, .long (lN (r1))), (10, .long (lN (q1))), (8, .long (lN (p1))), (0, .long (lN (p))), (2, .long (lN (q))), (4, .long (lN (r))), (6, .long (lN (s)))]) dX12_compare_148 (by decide) rfl ?_
                            refine mm_iconst (v := nI 0) dX12_compare_150 (by decide) ?_
                            refine mm_istore (L' := [(17, .int (nI (0))), (18, .int (nI (1))), (25, .long (lN ((r1) % (s1)))), (23, .long (lN ((p1) % (q1)))), (21, .long (lN ((r1) / (s1)))), (19, .long (lN ((p1) / (q1)))), (16, .int (Int32.ofInt e)), (14, .long (lN (s1))), (12, .long (lN (r1))), (10, .long (lN (q1))), (8, .long (lN (p1))), (0, .long (lN (p))), (2, .long (lN (q))), (4, .long (lN (r))), (6, .long (lN (s)))]) dX12_compare_151 (by decide) rfl ?_
                            refine mm_goto (tgt := 177) dX12_compare_153 (by decide) ?_
                            refine mm_goto (tgt := 23) dX12_compare_177 (by decide) ?_
                            refine mm_iload dX12_compare_23 0 rfl ?_
                            refine mn_if_eq (tgt := 180) dX12_compare_25 (by decide) (by omega) (fun c25 => ?_) (fun c25 => ?_)
                            · have ee : cm3 (p1 * s1) (r1 * q1) = 1 := by
                                by_cases hxy : p1 / q1 = r1 / s1
                                · rw [cmq_l hxy, cmq_0 hq0 hs0 (by omega)]; first | exact cm3_lt (by omega) | exact cm3_gt (by omega) | exact cm3_e (by omega)
                                · rw [cmq_w hq0 hs0 hxy]; first | exact cm3_lt (by omega) | exact cm3_gt (by omega) | exact cm3_e (by omega)
                              refine mm_iload dX12_compare_180 6 rfl ?_
                              refine mm_iload dX12_compare_182 1 rfl ?_
                              refine mn_top (u := .int (Int32.ofInt (1))) (congrArg Value.int (by decide)) ?_
                              refine mm_imul dX12_compare_184 ?_
                              exact mm_iret dX12_compare_185 rfl ⟨rfl, by rw [i32_mul, ← he, ee]⟩
                            · exact absurd rfl c25
                          · refine mm_iconst (v := nI 1) dX12_compare_142 (by decide) ?_
                            refine mm_goto (tgt := 148) dX12_compare_143 (by decide) ?_
                            refine mm_istore (L' := [(18, .int (nI (1))), (25, .long (lN ((r1) % (s1)))), (23, .long (lN ((p1) % (q1)))), (21, .long (lN ((r1) / (s1)))), (19, .long (lN ((p1) / (q1)))), (17, .int (nI (1))), (16, .int (Int32.ofInt e)), (14, .long (lN (s1))), (12, .long (lN (r1))), (10, .long (lN (q1))), (8, .long (lN (p1))), (0, .long (lN (p))), (2, .long (lN (q))), (4, .long (lN (r))), (6, .long (lN (s)))]) dX12_compare_148 (by decide) rfl ?_
                            refine mm_iconst (v := nI 0) dX12_compare_150 (by decide) ?_
                            refine mm_istore (L' := [(17, .int (nI (0))), (18, .int (nI (1))), (25, .long (lN ((r1) % (s1)))), (23, .long (lN ((p1) % (q1)))), (21, .long (lN ((r1) / (s1)))), (19, .long (lN ((p1) / (q1)))), (16, .int (Int32.ofInt e)), (14, .long (lN (s1))), (12, .long (lN (r1))), (10, .long (lN (q1))), (8, .long (lN (p1))), (0, .long (lN (p))), (2, .long (lN (q))), (4, .long (lN (r))), (6, .long (lN (s)))]) dX12_compare_151 (by decide) rfl ?_
                            refine mm_goto (tgt := 177) dX12_compare_153 (by decide) ?_
                            refine mm_goto (tgt := 23) dX12_compare_177 (by decide) ?_
                            refine mm_iload dX12_compare_23 0 rfl ?_
                            refine mn_if_eq (tgt := 180) dX12_compare_25 (by decide) (by omega) (fun c25 => ?_) (fun c25 => ?_)
                            · have ee : cm3 (p1 * s1) (r1 * q1) = 1 := by
                                by_cases hxy : p1 / q1 = r1 / s1
                                · rw [cmq_l hxy, cmq_0 hq0 hs0 (by omega)]; first | exact cm3_lt (by omega) | exact cm3_gt (by omega) | exact cm3_e (by omega)
                                · rw [cmq_w hq0 hs0 hxy]; first | exact cm3_lt (by omega) | exact cm3_gt (by omega) | exact cm3_e (by omega)
                              refine mm_iload dX12_compare_180 6 rfl ?_
                              refine mm_iload dX12_compare_182 1 rfl ?_
                              refine mn_top (u := .int (Int32.ofInt (1))) (congrArg Value.int (by decide)) ?_
                              refine mm_imul dX12_compare_184 ?_
                              exact mm_iret dX12_compare_185 rfl ⟨rfl, by rw [i32_mul, ← he, ee]⟩
                            · exact absurd rfl c25
                        · refine mm_iconst (v := nI 0) dX12_compare_127 (by decide) ?_
                          refine mm_goto (tgt := 132) dX12_compare_128 (by decide) ?_
                          refine mm_istore (L' := [(18, .int (nI (0))), (25, .long (lN ((r1) % (s1)))), (23, .long (lN ((p1) % (q1)))), (21, .long (lN ((r1) / (s1)))), (19, .long (lN ((p1) / (q1)))), (17, .int (nI (1))), (16, .int (Int32.ofInt e)), (14, .long (lN (s1))), (12, .long (lN (r1))), (10, .long (lN (q1))), (8, .long (lN (p1))), (0, .long (lN (p))), (2, .long (lN (q))), (4, .long (lN (r))), (6, .long (lN (s)))]) dX12_compare_132 (by decide) rfl ?_
                          refine mm_lload dX12_compare_134 4 rfl ?_
                          refine mm_lload dX12_compare_136 3 rfl ?_
                          refine mn_lc_le (tgt := 146) dX12_compare_138 dX12_compare_139 (by decide) (by omega) (by omega) (fun c138 => ?_) (fun c138 => ?_)
                          · refine mm_iload dX12_compare_146 0 rfl ?_
                            refine mm_istore (L' := [(18, .int (nI (0))), (25, .long (lN ((r1) % (s1)))), (23, .long (lN ((p1) % (q1)))), (21, .long (lN ((r1) / (s1)))), (19, .long (lN ((p1) / (q1)))), (17, .int (nI (1))), (16, .int (Int32.ofInt e)), (14, .long (lN (s1))), (12, .long (lN (r1))), (10, .long (lN (q1))), (8, .long (lN (p1))), (0, .long (lN (p))), (2, .long (lN (q))), (4, .long (lN (r))), (6, .long (lN (s)))]) dX12_compare_148 (by decide) rfl ?_
                            refine mm_iconst (v := nI 0) dX12_compare_150 (by decide) ?_
                            refine mm_istore (L' := [(17, .int (nI (0))), (18, .int (nI (0))), (25, .long (lN ((r1) % (s1)))), (23, .long (lN ((p1) % (q1)))), (21, .long (lN ((r1) / (s1)))), (19, .long (lN ((p1) / (q1)))), (16, .int (Int32.ofInt e)), (14, .long (lN (s1))), (12, .long (lN (r1))), (10, .long (lN (q1))), (8, .long (lN (p1))), (0, .long (lN (p))), (2, .long (lN (q))), (4, .long (lN (r))), (6, .long (lN (s)))]) dX12_compare_151 (by decide) rfl ?_
                            refine mm_goto (tgt := 177) dX12_compare_153 (by decide) ?_
                            refine mm_goto (tgt := 23) dX12_compare_177 (by decide) ?_
                            refine mm_iload dX12_compare_23 0 rfl ?_
                            refine mn_if_eq (tgt := 180) dX12_compare_25 (by decide) (by omega) (fun c25 => ?_) (fun c25 => ?_)
                            · have ee : cm3 (p1 * s1) (r1 * q1) = 0 := by
                                by_cases hxy : p1 / q1 = r1 / s1
                                · rw [cmq_l hxy, cmq_0 hq0 hs0 (by omega)]; first | exact cm3_lt (by omega) | exact cm3_gt (by omega) | exact cm3_e (by omega)
                                · rw [cmq_w hq0 hs0 hxy]; first | exact cm3_lt (by omega) | exact cm3_gt (by omega) | exact cm3_e (by omega)
                              refine mm_iload dX12_compare_180 6 rfl ?_
                              refine mm_iload dX12_compare_182 1 rfl ?_
                              refine mn_top (u := .int (Int32.ofInt (0))) (congrArg Value.int (by decide)) ?_
                              refine mm_imul dX12_compare_184 ?_
                              exact mm_iret dX12_compare_185 rfl ⟨rfl, by rw [i32_mul, ← he, ee]⟩
                            · exact absurd rfl c25
                          · refine mm_iconst (v := nI 1) dX12_compare_142 (by decide) ?_
                            refine mm_goto (tgt := 148) dX12_compare_143 (by decide) ?_
                            refine mm_istore (L' := [(18, .int (nI (1))), (25, .long (lN ((r1) % (s1)))), (23, .long (lN ((p1) % (q1)))), (21, .long (lN ((r1) / (s1)))), (19, .long (lN ((p1) / (q1)))), (17, .int (nI (1))), (16, .int (Int32.ofInt e)), (14, .long (lN (s1))), (12, .long (lN (r1))), (10, .long (lN (q1))), (8, .long (lN (p1))), (0, .long (lN (p))), (2, .long (lN (q))), (4, .long (lN (r))), (6, .long (lN (s)))]) dX12_compare_148 (by decide) rfl ?_
                            refine mm_iconst (v := nI 0) dX12_compare_150 (by decide) ?_
                            refine mm_istore (L' := [(17, .int (nI (0))), (18, .int (nI (1))), (25, .long (lN ((r1) % (s1)))), (23, .long (lN ((p1) % (q1)))), (21, .long (lN ((r1) / (s1)))), (19, .long (lN ((p1) / (q1)))), (16, .int (Int32.ofInt e)), (14, .long (lN (s1))), (12, .long (lN (r1))), (10, .long (lN (q1))), (8, .long (lN (p1))), (0, .long (lN (p))), (2, .long (lN (q))), (4, .long (lN (r))), (6, .long (lN (s)))]) dX12_compare_151 (by decide) rfl ?_
                            refine mm_goto (tgt := 177) dX12_compare_153 (by decide) ?_
                            refine mm_goto (tgt := 23) dX12_compare_177 (by decide) ?_
                            refine mm_iload dX12_compare_23 0 rfl ?_
                            refine mn_if_eq (tgt := 180) dX12_compare_25 (by decide) (by omega) (fun c25 => ?_) (fun c25 => ?_)
                            · have ee : cm3 (p1 * s1) (r1 * q1) = 1 := by
                                by_cases hxy : p1 / q1 = r1 / s1
                                · rw [cmq_l hxy, cmq_0 hq0 hs0 (by omega)]; first | exact cm3_lt (by omega) | exact cm3_gt (by omega) | exact cm3_e (by omega)
                                · rw [cmq_w hq0 hs0 hxy]; first | exact cm3_lt (by omega) | exact cm3_gt (by omega) | exact cm3_e (by omega)
                              refine mm_iload dX12_compare_180 6 rfl ?_
                              refine mm_iload dX12_compare_182 1 rfl ?_
                              refine mn_top (u := .int (Int32.ofInt (1))) (congrArg Value.int (by decide)) ?_
                              refine mm_imul dX12_compare_184 ?_
                              exact mm_iret dX12_compare_185 rfl ⟨rfl, by rw [i32_mul, ← he, ee]⟩
                            · exact absurd rfl c25
                    · refine mm_iconst (v := (-1)) dX12_compare_108 (by decide) ?_
                      refine mm_goto (tgt := 132) dX12_compare_109 (by decide) ?_
                      refine mm_istore (L' := [(18, .int ((-1))), (25, .long (lN ((r1) % (s1)))), (23, .long (lN ((p1) % (q1)))), (21, .long (lN ((r1) / (s1)))), (19, .long (lN ((p1) / (q1)))), (17, .int (nI (1))), (16, .int (Int32.ofInt e)), (14, .long (lN (s1))), (12, .long (lN (r1))), (10, .long (lN (q1))), (8, .long (lN (p1))), (0, .long (lN (p))), (2, .long (lN (q))), (4, .long (lN (r))), (6, .long (lN (s)))]) dX12_compare_132 (by decide) rfl ?_
                      refine mm_lload dX12_compare_134 4 rfl ?_
                      refine mm_lload dX12_compare_136 3 rfl ?_
                      refine mn_lc_le (tgt := 146) dX12_compare_138 dX12_compare_139 (by decide) (by omega) (by omega) (fun c138 => ?_) (fun c138 => ?_)
                      · refine mm_iload dX12_compare_146 0 rfl ?_
                        refine mm_istore (L' := [(18, .int ((-1))), (25, .long (lN ((r1) % (s1)))), (23, .long (lN ((p1) % (q1)))), (21, .long (lN ((r1) / (s1)))), (19, .long (lN ((p1) / (q1)))), (17, .int (nI (1))), (16, .int (Int32.ofInt e)), (14, .long (lN (s1))), (12, .long (lN (r1))), (10, .long (lN (q1))), (8, .long (lN (p1))), (0, .long (lN (p))), (2, .long (lN (q))), (4, .long (lN (r))), (6, .long (lN (s)))]) dX12_compare_148 (by decide) rfl ?_
                        refine mm_iconst (v := nI 0) dX12_compare_150 (by decide) ?_
                        refine mm_istore (L' := [(17, .int (nI (0))), (18, .int ((-1))), (25, .long (lN ((r1) % (s1)))), (23, .long (lN ((p1) % (q1)))), (21, .long (lN ((r1) / (s1)))), (19, .long (lN ((p1) / (q1)))), (16, .int (Int32.ofInt e)), (14, .long (lN (s1))), (12, .long (lN (r1))), (10, .long (lN (q1))), (8, .long (lN (p1))), (0, .long (lN (p))), (2, .long (lN (q))), (4, .long (lN (r))), (6, .long (lN (s)))]) dX12_compare_151 (by decide) rfl ?_
                        refine mm_goto (tgt := 177) dX12_compare_153 (by decide) ?_
                        refine mm_goto (tgt := 23) dX12_compare_177 (by decide) ?_
                        refine mm_iload dX12_compare_23 0 rfl ?_
                        refine mn_if_eq (tgt := 180) dX12_compare_25 (by decide) (by omega) (fun c25 => ?_) (fun c25 => ?_)
                        · have ee : cm3 (p1 * s1) (r1 * q1) = -1 := by
                            by_cases hxy : p1 / q1 = r1 / s1
                            · rw [cmq_l hxy, cmq_0 hq0 hs0 (by omega)]; first | exact cm3_lt (by omega) | exact cm3_gt (by omega) | exact cm3_e (by omega)
                            · rw [cmq_w hq0 hs0 hxy]; first | exact cm3_lt (by omega) | exact cm3_gt (by omega) | exact cm3_e (by omega)
                          refine mm_iload dX12_compare_180 6 rfl ?_
                          refine mm_iload dX12_compare_182 1 rfl ?_
                          refine mn_top (u := .int (Int32.ofInt (-1))) (congrArg Value.int (by decide)) ?_
                          refine mm_imul dX12_compare_184 ?_
                          exact mm_iret dX12_compare_185 rfl ⟨rfl, by rw [i32_mul, ← he, ee]⟩
                        · exact absurd rfl c25
                      · refine mm_iconst (v := nI 1) dX12_compare_142 (by decide) ?_
                        refine mm_goto (tgt := 148) dX12_compare_143 (by decide) ?_
                        refine mm_istore (L' := [(18, .int (nI (1))), (25, .long (lN ((r1) % (s1)))), (23, .long (lN ((p1) % (q1)))), (21, .long (lN ((r1) / (s1)))), (19, .long (lN ((p1) / (q1)))), (17, .int (nI (1))), (16, .int (Int32.ofInt e)), (14, .long (lN (s1))), (12, .long (lN (r1))), (10, .long (lN (q1))), (8, .long (lN (p1))), (0, .long (lN (p))), (2, .long (lN (q))), (4, .long (lN (r))), (6, .long (lN (s)))]) dX12_compare_148 (by decide) rfl ?_
                        refine mm_iconst (v := nI 0) dX12_compare_150 (by decide) ?_
                        refine mm_istore (L' := [(17, .int (nI (0))), (18, .int (nI (1))), (25, .long (lN ((r1) % (s1)))), (23, .long (lN ((p1) % (q1)))), (21, .long (lN ((r1) / (s1)))), (19, .long (lN ((p1) / (q1)))), (16, .int (Int32.ofInt e)), (14, .long (lN (s1))), (12, .long (lN (r1))), (10, .long (lN (q1))), (8, .long (lN (p1))), (0, .long (lN (p))), (2, .long (lN (q))), (4, .long (lN (r))), (6, .long (lN (s)))]) dX12_compare_151 (by decide) rfl ?_
                        refine mm_goto (tgt := 177) dX12_compare_153 (by decide) ?_
                        refine mm_goto (tgt := 23) dX12_compare_177 (by decide) ?_
                        refine mm_iload dX12_compare_23 0 rfl ?_
                        refine mn_if_eq (tgt := 180) dX12_compare_25 (by decide) (by omega) (fun c25 => ?_) (fun c25 => ?_)
                        · have ee : cm3 (p1 * s1) (r1 * q1) = 1 := by
                            by_cases hxy : p1 / q1 = r1 / s1
                            · rw [cmq_l hxy, cmq_0 hq0 hs0 (by omega)]; first | exact cm3_lt (by omega) | exact cm3_gt (by omega) | exact cm3_e (by omega)
                            · rw [cmq_w hq0 hs0 hxy]; first | exact cm3_lt (by omega) | exact cm3_gt (by omega) | exact cm3_e (by omega)
                          refine mm_iload dX12_compare_180 6 rfl ?_
                          refine mm_iload dX12_compare_182 1 rfl ?_
                          refine mn_top (u := .int (Int32.ofInt (1))) (congrArg Value.int (by decide)) ?_
                          refine mm_imul dX12_compare_184 ?_
                          exact mm_iret dX12_compare_185 rfl ⟨rfl, by rw [i32_mul, ← he, ee]⟩
                        · exact absurd rfl c25
  refine mm_lload_n dX12_compare_0 rfl 0 rfl ?_
  refine mm_lstore (L' := [(8, .long (lN (p))), (0, .long (lN (p))), (2, .long (lN (q))), (4, .long (lN (r))), (6, .long (lN (s)))]) dX12_compare_1 (by decide) rfl ?_
  refine mm_lload_n dX12_compare_3 rfl 2 rfl ?_
  refine mm_lstore (L' := [(10, .long (lN (q))), (8, .long (lN (p))), (0, .long (lN (p))), (2, .long (lN (q))), (4, .long (lN (r))), (6, .long (lN (s)))]) dX12_compare_4 (by decide) rfl ?_
  refine mm_lload dX12_compare_6 4 rfl ?_
  refine mm_lstore (L' := [(12, .long (lN (r))), (10, .long (lN (q))), (8, .long (lN (p))), (0, .long (lN (p))), (2, .long (lN (q))), (4, .long (lN (r))), (6, .long (lN (s)))]) dX12_compare_8 (by decide) rfl ?_
  refine mm_lload dX12_compare_10 6 rfl ?_
  refine mm_lstore (L' := [(14, .long (lN (s))), (12, .long (lN (r))), (10, .long (lN (q))), (8, .long (lN (p))), (0, .long (lN (p))), (2, .long (lN (q))), (4, .long (lN (r))), (6, .long (lN (s)))]) dX12_compare_12 (by decide) rfl ?_
  refine mm_iconst (v := nI 1) dX12_compare_14 (by decide) ?_
  refine mm_istore (L' := [(16, .int (nI (1))), (14, .long (lN (s))), (12, .long (lN (r))), (10, .long (lN (q))), (8, .long (lN (p))), (0, .long (lN (p))), (2, .long (lN (q))), (4, .long (lN (r))), (6, .long (lN (s)))]) dX12_compare_15 (by decide) rfl ?_
  refine mm_iconst (v := nI 1) dX12_compare_17 (by decide) ?_
  refine mm_istore (L' := [(17, .int (nI (1))), (16, .int (nI (1))), (14, .long (lN (s))), (12, .long (lN (r))), (10, .long (lN (q))), (8, .long (lN (p))), (0, .long (lN (p))), (2, .long (lN (q))), (4, .long (lN (r))), (6, .long (lN (s)))]) dX12_compare_18 (by decide) rfl ?_
  refine mm_iconst (v := nI 0) dX12_compare_20 (by decide) ?_
  refine mm_istore (L' := [(18, .int (nI (0))), (17, .int (nI (1))), (16, .int (nI (1))), (14, .long (lN (s))), (12, .long (lN (r))), (10, .long (lN (q))), (8, .long (lN (p))), (0, .long (lN (p))), (2, .long (lN (q))), (4, .long (lN (r))), (6, .long (lN (s)))]) dX12_compare_21 (by decide) rfl ?_
  refine mn_sub [0, 1, 2, 3, 4, 5, 6, 7, 8, 9, 10] rfl ?_
  exact lp (2 * 63) p q r s 1 hp hq hr hs hq0 hs0 (gs_lt 63 p q hq) (Int.one_mul _)
