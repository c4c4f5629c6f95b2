/-! Ratio -/
set_option maxRecDepth 100000 in
set_option maxHeartbeats 4000000 in
theorem cj_lcmp {l : Launch} {D : va_G} {aa : Nat → ClassId} {b0 : Nat} {h : mm_H} {a b : Nat} (ha : a < 2 ^ 63) (hb : b < 2 ^ 63) : mm_V (zz_K l D aa b0) 0 yJ13_compare_74951 cJ13_compare_74951 4 (some .int) 0 [(0, .long (lN (a))), (2, .long (lN (b)))] [] h 0 0 (fun rv h' => h' = h ∧ rv = some (.int (Int32.ofInt (cm3 a b)))) := by
  refine mm_lload_n dJ13_compare_74951_0 rfl 0 rfl ?_
  refine mm_lload_n dJ13_compare_74951_1 rfl 1 rfl ?_
  refine mn_lc_ge (tgt := 10) dJ13_compare_74951_2 dJ13_compare_74951_3 (by decide) (by omega) (by omega) (fun c2 => ?_) (fun c2 => ?_)
  · refine mm_lload_n dJ13_compare_74951_10 rfl 0 rfl ?_
    refine mm_lload_n dJ13_compare_74951_11 rfl 1 rfl ?_
    refine mn_lc_ne (tgt := 20) dJ13_compare_74951_12 dJ13_compare_74951_13 (by decide) (by omega) (by omega) (fun c12 => ?_) (fun c12 => ?_)
    · refine mm_iconst (v := nI 1) dJ13_compare_74951_20 (by decide) ?_
      exact mm_iret dJ13_compare_74951_21 rfl (⟨rfl, by rw [cm3_gt (by omega)]; rfl⟩)
    · refine mm_iconst (v := nI 0) dJ13_compare_74951_16 (by decide) ?_
      refine mm_goto (tgt := 21) dJ13_compare_74951_17 (by decide) ?_
      exact mm_iret dJ13_compare_74951_21 rfl (⟨rfl, by rw [show a = b from by omega, cm3_eq]; rfl⟩)
  · refine mm_iconst (v := (-1)) dJ13_compare_74951_6 (by decide) ?_
    refine mm_goto (tgt := 21) dJ13_compare_74951_7 (by decide) ?_
    exact mm_iret dJ13_compare_74951_21 rfl (⟨rfl, by rw [cm3_lt (by omega)]; rfl⟩)
theorem gc_st (x y : Nat) : Nat.gcd y (x % y) = Nat.gcd x y := by
  rw [Nat.gcd_comm x y, Nat.gcd_rec y x, Nat.gcd_comm]
set_option maxRecDepth 100000 in
set_option maxHeartbeats 4000000 in
theorem cq_common {l : Launch} {D : va_G} {aa : Nat → ClassId} {b0 : Nat} {h : mm_H} {a b : Nat} (ha : a < 2 ^ 63) (hb : b < 2 ^ 63) : mm_V (zz_K l D aa b0) 0 yX4_common cX4_common 11 (some .long) 0 [(0, .long (lN (a))), (2, .long (lN (b)))] [] h 0 0 (fun rv h' => h' = h ∧ rv = some (.long (lN (Nat.gcd a b)))) := by
  have lp : ∀ (n tn x y : Nat), tn + n ≤ 1000 → x < 2 ^ 63 → y < 2 ^ 63 → gs n x y → Nat.gcd x y = Nat.gcd a b → mm_V (zz_K l D aa b0) 0 yX4_common cX4_common 11 (some .long) 9 [(8, .int (nI (tn))), (6, .long (lN (y))), (4, .long (lN (x))), (0, .long (lN (a))), (2, .long (lN (b)))] [] h 0 0 (fun rv h' => h' = h ∧ rv = some (.long (lN (Nat.gcd a b)))) := by
    intro n
    induction n with
    | zero =>
      intro tn x y ht hx hy hg he
      have hg : y = 0 := hg
      refine mm_iload dX4_common_9 0 rfl ?_
      refine mm_sipush (v := nI 1000) dX4_common_11 (by decide) ?_
      refine mn_icmp_ge (tgt := 45) dX4_common_14 (by decide) (by omega) (by omega) (fun c14 => ?_) (fun c14 => ?_)
      · refine mm_lload dX4_common_45 2 rfl ?_
        have e0 : y = 0 := by omega
        rw [e0, Nat.gcd_zero_right] at he
        exact mm_lret dX4_common_47 rfl (⟨rfl, by rw [he]⟩)
      · refine mm_lload dX4_common_17 1 rfl ?_
        refine mm_lconst (v := lN 0) dX4_common_19 (by decide) ?_
        refine mn_lc_eq (tgt := 45) dX4_common_20 dX4_common_21 (by decide) (by omega) (by omega) (fun c20 => ?_) (fun c20 => ?_)
        · refine mm_lload dX4_common_45 2 rfl ?_
          have e0 : y = 0 := by omega
          rw [e0, Nat.gcd_zero_right] at he
          exact mm_lret dX4_common_47 rfl (⟨rfl, by rw [he]⟩)
        · omega
    | succ n ih =>
      intro tn x y ht hx hy hg he
      refine mm_iload dX4_common_9 0 rfl ?_
      refine mm_sipush (v := nI 1000) dX4_common_11 (by decide) ?_
      refine mn_icmp_ge (tgt := 45) dX4_common_14 (by decide) (by omega) (by omega) (fun c14 => ?_) (fun c14 => ?_)
      · omega
      · refine mm_lload dX4_common_17 1 rfl ?_
        refine mm_lconst (v := lN 0) dX4_common_19 (by decide) ?_
        refine mn_lc_eq (tgt := 45) dX4_common_20 dX4_common_21 (by decide) (by omega) (by omega) (fun c20 => ?_) (fun c20 => ?_)
        · refine mm_lload dX4_common_45 2 rfl ?_
          have e0 : y = 0 := by omega
          rw [e0, Nat.gcd_zero_right] at he
          exact mm_lret dX4_common_47 rfl (⟨rfl, by rw [he]⟩)
        · have hm : x % y < y := Nat.mod_lt _ (by omega)
          refine mm_lload dX4_common_24 2 rfl ?_
          refine mm_lload dX4_common_26 1 rfl ?_
          refine mn_lrem dX4_common_28 (by omega) (by omega) (by omega) ?_
          refine mm_lstore (L' := [(9, .long (lN ((x) % (y)))), (8, .int (nI (tn))), (6, .long (lN (y))), (4, .long (lN (x))), (0, .long (lN (a))), (2, .long (lN (b)))]) dX4_common_29 (by decide) rfl ?_
          refine mm_lload dX4_common_31 2 rfl ?_
          refine mm_lstore (L' := [(4, .long (lN (y))), (9, .long (lN ((x) % (y)))), (8, .int (nI (tn))), (6, .long (lN (y))), (0, .long (lN (a))), (2, .long (lN (b)))]) dX4_common_33 (by decide) rfl ?_
          refine mm_lload dX4_common_35 1 rfl ?_
          refine mm_lstore (L' := [(6, .long (lN ((x) % (y)))), (4, .long (lN (y))), (9, .long (lN ((x) % (y)))), (8, .int (nI (tn))), (0, .long (lN (a))), (2, .long (lN (b)))]) dX4_common_37 (by decide) rfl ?_
          refine mn_iinc (m := 1) (L' := [(8, .int (nI (tn + 1))), (6, .long (lN ((x) % (y)))), (4, .long (lN (y))), (9, .long (lN ((x) % (y)))), (0, .long (lN (a))), (2, .long (lN (b)))]) dX4_common_39 (by decide) 3 rfl (by decide) rfl ?_
          refine mm_goto (tgt := 9) dX4_common_42 (by decide) ?_
          refine mn_sub [0, 1, 2, 4, 5] rfl ?_
          exact ih (tn + 1) y (x % y) (by omega) hy (by omega) (hg.resolve_left (by omega)) ((gc_st x y).trans he)
  refine mm_lload_n dX4_common_0 rfl 0 rfl ?_
  refine mm_lstore (L' := [(4, .long (lN (a))), (0, .long (lN (a))), (2, .long (lN (b)))]) dX4_common_1 (by decide) rfl ?_
  refine mm_lload_n dX4_common_3 rfl 2 rfl ?_
  refine mm_lstore (L' := [(6, .long (lN (b))), (4, .long (lN (a))), (0, .long (lN (a))), (2, .long (lN (b)))]) dX4_common_4 (by decide) rfl ?_
  refine mm_iconst (v := nI 0) dX4_common_6 (by decide) ?_
  refine mm_istore (L' := [(8, .int (nI (0))), (6, .long (lN (b))), (4, .long (lN (a))), (0, .long (lN (a))), (2, .long (lN (b)))]) dX4_common_7 (by decide) rfl ?_
  refine mn_sub [0, 1, 2, 3, 4] rfl ?_
  exact lp (2 * 63) 0 a b (by omega) ha hb (gs_lt 63 a b hb) rfl
set_option maxRecDepth 100000 in
set_option maxHeartbeats 4000000 in
theorem tm_divisor {l : Launch} {D : va_G} {aa : Nat → ClassId} {b0 : Nat} {h : mm_H} {a b : Nat} (ha : a < 2 ^ 63) (hb : b < 2 ^ 63) : mm_V (zz_K l D aa b0) 0 yX12_divisor cX12_divisor 10 (some .long) 0 [(0, .long (lN (a))), (2, .long (lN (b)))] [] h 0 0 (fun rv h' => h' = h ∧ rv = some (.long (lN (Nat.gcd a b)))) := by
  have lp : ∀ (n x y : Nat), x < 2 ^ 63 → y < 2 ^ 63 → gs n x y → Nat.gcd x y = Nat.gcd a b → mm_V (zz_K l D aa b0) 0 yX12_divisor cX12_divisor 10 (some .long) 6 [(6, .long (lN (y))), (4, .long (lN (x))), (0, .long (lN (a))), (2, .long (lN (b)))] [] h 0 0 (fun rv h' => h' = h ∧ rv = some (.long (lN (Nat.gcd a b)))) := by
    intro n
    induction n with
    | zero =>
      intro x y hx hy hg he
      have hg : y = 0 := hg
      refine mm_lload dX12_divisor_6 0 rfl ?_
      refine mm_lconst (v := lN 0) dX12_divisor_8 (by decide) ?_
      refine mn_lc_eq (tgt := 31) dX12_divisor_9 dX12_divisor_10 (by decide) (by omega) (by omega) (fun c9 => ?_) (fun c9 => ?_)
      · refine mm_lload dX12_divisor_31 1 rfl ?_
        have e0 : y = 0 := by omega
        rw [e0, Nat.gcd_zero_right] at he
        exact mm_lret dX12_divisor_33 rfl (⟨rfl, by rw [he]⟩)
      · omega
    | succ n ih =>
      intro x y hx hy hg he
      refine mm_lload dX12_divisor_6 0 rfl ?_
      refine mm_lconst (v := lN 0) dX12_divisor_8 (by decide) ?_
      refine mn_lc_eq (tgt := 31) dX12_divisor_9 dX12_divisor_10 (by decide) (by omega) (by omega) (fun c9 => ?_) (fun c9 => ?_)
      · refine mm_lload dX12_divisor_31 1 rfl ?_
        have e0 : y = 0 := by omega
        rw [e0, Nat.gcd_zero_right] at he
        exact mm_lret dX12_divisor_33 rfl (⟨rfl, by rw [he]⟩)
      · have hm : x % y < y := Nat.mod_lt _ (by omega)
        refine mm_lload dX12_divisor_13 1 rfl ?_
        refine mm_lload dX12_divisor_15 0 rfl ?_
        refine mn_lrem dX12_divisor_17 (by omega) (by omega) (by omega) ?_
        refine mm_lstore (L' := [(8, .long (lN ((x) % (y)))), (6, .long (lN (y))), (4, .long (lN (x))), (0, .long (lN (a))), (2, .long (lN (b)))]) dX12_divisor_18 (by decide) rfl ?_
        refine mm_lload dX12_divisor_20 1 rfl ?_
        refine mm_lstore (L' := [(4, .long (lN (y))), (8, .long (lN ((x) % (y)))), (6, .long (lN (y))), (0, .long (lN (a))), (2, .long (lN (b)))]) dX12_divisor_22 (by decide) rfl ?_
        refine mm_lload dX12_divisor_24 1 rfl ?_
        refine mm_lstore (L' := [(6, .long (lN ((x) % (y)))), (4, .long (lN (y))), (8, .long (lN ((x) % (y)))), (0, .long (lN (a))), (2, .long (lN (b)))]) dX12_divisor_26 (by decide) rfl ?_
        refine mm_goto (tgt := 6) dX12_divisor_28 (by decide) ?_
        refine mn_sub [0, 1, 3, 4] rfl ?_
        exact ih y (x % y) hy (by omega) (hg.resolve_left (by omega)) ((gc_st x y).trans he)
  refine mm_lload_n dX12_divisor_0 rfl 0 rfl ?_
  refine mm_lstore (L' := [(4, .long (lN (a))), (0, .long (lN (a))), (2, .long (lN (b)))]) dX12_divisor_1 (by decide) rfl ?_
  refine mm_lload_n dX12_divisor_3 rfl 2 rfl ?_
  refine mm_lstore (L' := [(6, .long (lN (b))), (4, .long (lN (a))), (0, .long (lN (a))), (2, .long (lN (b)))]) dX12_divisor_4 (by decide) rfl ?_
  refine mn_sub [0, 1, 2, 3] rfl ?_
  exact lp (2 * 63) a b ha hb (gs_lt 63 a b hb) rfl
theorem cm3_z {a b : Nat} (h : Int32.ofInt (cm3 a b) = 0) : a = b := by
  unfold cm3 at h
  split at h
  · exact absurd h (by decide)
  · split at h
    · assumption
    · exact absurd h (by decide)
set_option maxRecDepth 100000 in
set_option maxHeartbeats 4000000 in
theorem cq_compare {l : Launch} {D : va_G} {aa : Nat → ClassId} {b0 : Nat} {h : mm_H} {p q r s : Nat} (hp : p < 2 ^ 63) (hq : q < 2 ^ 63) (hr : r < 2 ^ 63) (hs : s < 2 ^ 63) (hq0 : 0 < q) (hs0 : 0 < s) : mm_V (zz_K l D aa b0) 1 yX4_compare cX4_compare 23 (some .int) 0 [(0, .long (lN (p))), (2, .long (lN (q))), (4, .long (lN (r))), (6, .long (lN (s)))] [] h 0 0 (fun rv h' => h' = h ∧ rv = some (.int (Int32.ofInt (cm3 (p * s) (r * q))))) := by
  have lp : ∀ (n tn p1 q1 r1 s1 : Nat) (e : Int), tn + n ≤ 999 → p1 < 2 ^ 63 → q1 < 2 ^ 63 → r1 < 2 ^ 63 → s1 < 2 ^ 63 → 0 < q1 → 0 < s1 → gs n p1 q1 → e * cm3 (p1 * s1) (r1 * q1) = cm3 (p * s) (r * q) → mm_V (zz_K l D aa b0) 1 yX4_compare cX4_compare 23 (some .int) 20 [(17, .int (nI (tn))), (16, .int (Int32.ofInt e)), (14, .long (lN (s1))), (12, .long (lN (r1))), (10, .long (lN (q1))), (8, .long (lN (p1))), (0, .long (lN (p))), (2, .long (lN (q))), (4, .long (lN (r))), (6, .long (lN (s)))] [] h 0 0 (fun rv h' => h' = h ∧ rv = some (.int (Int32.ofInt (cm3 (p * s) (r * q))))) := by
    intro n
    induction n with
    | zero =>
      intro tn p1 q1 r1 s1 e ht hp1 hq1 hr1 hs1 hq0 hs0 hg he
      have hg : q1 = 0 := hg
      omega
    | succ n ih =>
      intro tn p1 q1 r1 s1 e ht hp1 hq1 hr1 hs1 hq0 hs0 hg he
      have hd1 : p1 / q1 < 2 ^ 63 := Nat.lt_of_le_of_lt (Nat.div_le_self _ _) hp1
      have hd2 : r1 / s1 < 2 ^ 63 := Nat.lt_of_le_of_lt (Nat.div_le_self _ _) hr1
      have hm1 : p1 % q1 < q1 := Nat.mod_lt _ hq0
      have hm2 : r1 % s1 < s1 := Nat.mod_lt _ hs0
      refine mm_iload dX4_compare_20 0 rfl ?_
      refine mm_sipush (v := nI 1000) dX4_compare_22 (by decide) ?_
      refine mn_icmp_ge (tgt := 134) dX4_compare_25 (by decide) (by omega) (by omega) (fun c25 => ?_) (fun c25 => ?_)
      · omega
      · refine mm_lload dX4_compare_28 4 rfl ?_
        refine mm_lconst (v := lN 0) dX4_compare_30 (by decide) ?_
        refine mn_lc_le (tgt := 134) dX4_compare_31 dX4_compare_32 (by decide) (by omega) (by omega) (fun c31 => ?_) (fun c31 => ?_)
        · omega
        · refine mm_lload dX4_compare_35 2 rfl ?_
          refine mm_lconst (v := lN 0) dX4_compare_37 (by decide) ?_
          refine mn_lc_le (tgt := 134) dX4_compare_38 dX4_compare_39 (by decide) (by omega) (by omega) (fun c38 => ?_) (fun c38 => ?_)
          · omega
          · refine mm_lload dX4_compare_42 5 rfl ?_
            refine mm_lload dX4_compare_44 4 rfl ?_
            refine mn_ldiv dX4_compare_46 (by omega) (by omega) (by omega) ?_
            refine mm_lload dX4_compare_47 3 rfl ?_
            refine mm_lload dX4_compare_49 2 rfl ?_
            refine mn_ldiv dX4_compare_51 (by omega) (by omega) (by omega) ?_
            refine rm_callSr (As := [.long (lN ((p1) / (q1))), .long (lN ((r1) / (s1)))]) (rest := []) (d2 := 0) dX4_compare_52 zc_X4_24 rfl rfl (Nat.le_of_ble_eq_true rfl) (Nat.le_of_ble_eq_true rfl) (by decide) (cj_lcmp (a := (p1) / (q1)) (b := (r1) / (s1)) (by omega) (by omega)) ?_
            refine mm_istore (L' := [(18, .int (Int32.ofInt (cm3 ((p1) / (q1)) ((r1) / (s1))))), (17, .int (nI (tn))), (16, .int (Int32.ofInt e)), (14, .long (lN (s1))), (12, .long (lN (r1))), (10, .long (lN (q1))), (8, .long (lN (p1))), (0, .long (lN (p))), (2, .long (lN (q))), (4, .long (lN (r))), (6, .long (lN (s)))]) dX4_compare_55 (by decide) rfl ?_
            refine mm_iload dX4_compare_57 0 rfl ?_
            refine mm_if_eq (tgt := 68) dX4_compare_59 (by decide) (fun c59 => ?_) (fun c59 => ?_)
            · have hw := cm3_z c59
              have hl := cmq_l (p := p1) (q := q1) (r := r1) (s := s1) hw
              refine mm_lload dX4_compare_68 6 rfl ?_
              refine mm_lload dX4_compare_70 5 rfl ?_
              refine mn_lrem dX4_compare_72 (by omega) (by omega) (by omega) ?_
              refine mm_lstore (L' := [(19, .long (lN ((p1) % (q1)))), (18, .int (Int32.ofInt (cm3 ((p1) / (q1)) ((r1) / (s1))))), (17, .int (nI (tn))), (16, .int (Int32.ofInt e)), (14, .long (lN (s1))), (12, .long (lN (r1))), (10, .long (lN (q1))), (8, .long (lN (p1))), (0, .long (lN (p))), (2, .long (lN (q))), (4, .long (lN (r))), (6, .long (lN (s)))]) dX4_compare_73 (by decide) rfl ?_
              refine mm_lload dX4_compare_75 5 rfl ?_
              refine mm_lload dX4_compare_77 4 rfl ?_
              refine mn_lrem dX4_compare_79 (by omega) (by omega) (by omega) ?_
              refine mm_lstore (L' := [(21, .long (lN ((r1) % (s1)))), (19, .long (lN ((p1) % (q1)))), (18, .int (Int32.ofInt (cm3 ((p1) / (q1)) ((r1) / (s1))))), (17, .int (nI (tn))), (16, .int (Int32.ofInt e)), (14, .long (lN (s1))), (12, .long (lN (r1))), (10, .long (lN (q1))), (8, .long (lN (p1))), (0, .long (lN (p))), (2, .long (lN (q))), (4, .long (lN (r))), (6, .long (lN (s)))]) dX4_compare_80 (by decide) rfl ?_
              refine mm_lload dX4_compare_82 1 rfl ?_
              refine mm_lconst (v := lN 0) dX4_compare_84 (by decide) ?_
              refine mn_lc_eq (tgt := 96) dX4_compare_85 dX4_compare_86 (by decide) (by omega) (by omega) (fun c85 => ?_) (fun c85 => ?_)
              · refine mm_lload dX4_compare_96 1 rfl ?_
                refine mm_lload dX4_compare_98 0 rfl ?_
                refine rm_callSr (As := [.long (lN ((p1) % (q1))), .long (lN ((r1) % (s1)))]) (rest := []) (d2 := 0) dX4_compare_100 zc_X4_24 rfl rfl (Nat.le_of_ble_eq_true rfl) (Nat.le_of_ble_eq_true rfl) (by decide) (cj_lcmp (a := (p1) % (q1)) (b := (r1) % (s1)) (by omega) (by omega)) ?_
                refine mm_iload dX4_compare_103 4 rfl ?_
                refine mm_imul dX4_compare_105 ?_
                exact mm_iret dX4_compare_106 rfl ⟨rfl, by rw [i32_mul, Int.mul_comm, ← cmq_0 hq0 hs0 (by omega), ← hl, he]⟩
              · refine mm_lload dX4_compare_89 0 rfl ?_
                refine mm_lconst (v := lN 0) dX4_compare_91 (by decide) ?_
                refine mn_lc_ne (tgt := 107) dX4_compare_92 dX4_compare_93 (by decide) (by omega) (by omega) (fun c92 => ?_) (fun c92 => ?_)
                · refine mm_lload dX4_compare_107 7 rfl ?_
                  refine mm_lstore (L' := [(8, .long (lN (q1))), (21, .long (lN ((r1) % (s1)))), (19, .long (lN ((p1) % (q1)))), (18, .int (Int32.ofInt (cm3 ((p1) / (q1)) ((r1) / (s1))))), (17, .int (nI (tn))), (16, .int (Int32.ofInt e)), (14, .long (lN (s1))), (12, .long (lN (r1))), (10, .long (lN (q1))), (0, .long (lN (p))), (2, .long (lN (q))), (4, .long (lN (r))), (6, .long (lN (s)))]) dX4_compare_109 (by decide) rfl ?_
                  refine mm_lload dX4_compare_111 2 rfl ?_
                  refine mm_lstore (L' := [(10, .long (lN ((p1) % (q1)))), (8, .long (lN (q1))), (21, .long (lN ((r1) % (s1)))), (19, .long (lN ((p1) % (q1)))), (18, .int (Int32.ofInt (cm3 ((p1) / (q1)) ((r1) / (s1))))), (17, .int (nI (tn))), (16, .int (Int32.ofInt e)), (14, .long (lN (s1))), (12, .long (lN (r1))), (0, .long (lN (p))), (2, .long (lN (q))), (4, .long (lN (r))), (6, .long (lN (s)))]) dX4_compare_113 (by decide) rfl ?_
                  refine mm_lload dX4_compare_115 7 rfl ?_
                  refine mm_lstore (L' := [(12, .long (lN (s1))), (10, .long (lN ((p1) % (q1)))), (8, .long (lN (q1))), (21, .long (lN ((r1) % (s1)))), (19, .long (lN ((p1) % (q1)))), (18, .int (Int32.ofInt (cm3 ((p1) / (q1)) ((r1) / (s1))))), (17, .int (nI (tn))), (16, .int (Int32.ofInt e)), (14, .long (lN (s1))), (0, .long (lN (p))), (2, .long (lN (q))), (4, .long (lN (r))), (6, .long (lN (s)))]) dX4_compare_117 (by decide) rfl ?_
                  refine mm_lload dX4_compare_119 3 rfl ?_
                  refine mm_lstore (L' := [(14, .long (lN ((r1) % (s1)))), (12, .long (lN (s1))), (10, .long (lN ((p1) % (q1)))), (8, .long (lN (q1))), (21, .long (lN ((r1) % (s1)))), (19, .long (lN ((p1) % (q1)))), (18, .int (Int32.ofInt (cm3 ((p1) / (q1)) ((r1) / (s1))))), (17, .int (nI (tn))), (16, .int (Int32.ofInt e)), (0, .long (lN (p))), (2, .long (lN (q))), (4, .long (lN (r))), (6, .long (lN (s)))]) dX4_compare_121 (by decide) rfl ?_
                  refine mm_iload dX4_compare_123 8 rfl ?_
                  refine mm_ineg dX4_compare_125 ?_
                  refine mn_top (u := .int (Int32.ofInt (-e))) (congrArg Value.int (i32_neg)) ?_
                  refine mm_istore (L' := [(16, .int (Int32.ofInt (-e))), (14, .long (lN ((r1) % (s1)))), (12, .long (lN (s1))), (10, .long (lN ((p1) % (q1)))), (8, .long (lN (q1))), (21, .long (lN ((r1) % (s1)))), (19, .long (lN ((p1) % (q1)))), (18, .int (Int32.ofInt (cm3 ((p1) / (q1)) ((r1) / (s1))))), (17, .int (nI (tn))), (0, .long (lN (p))), (2, .long (lN (q))), (4, .long (lN (r))), (6, .long (lN (s)))]) dX4_compare_126 (by decide) rfl ?_
                  refine mn_iinc (m := 1) (L' := [(17, .int (nI (tn + 1))), (16, .int (Int32.ofInt (-e))), (14, .long (lN ((r1) % (s1)))), (12, .long (lN (s1))), (10, .long (lN ((p1) % (q1)))), (8, .long (lN (q1))), (21, .long (lN ((r1) % (s1)))), (19, .long (lN ((p1) % (q1)))), (18, .int (Int32.ofInt (cm3 ((p1) / (q1)) ((r1) / (s1))))), (0, .long (lN (p))), (2, .long (lN (q))), (4, .long (lN (r))), (6, .long (lN (s)))]) dX4_compare_128 (by decide) 8 rfl (by decide) rfl ?_
                  refine mm_goto (tgt := 20) dX4_compare_131 (by decide) ?_
                  refine mn_sub [0, 1, 2, 3, 4, 5, 9, 10, 11, 12] rfl ?_
                  exact ih (tn + 1) q1 (p1 % q1) s1 (r1 % s1) (-e) (by omega) hq1 (by omega) hs1 (by omega) (by omega) (by omega) (hg.resolve_left (by omega)) (by rw [← he, hl, cmq_f (l := p1 % q1) (q := q1) (m := r1 % s1) (s := s1), Int.neg_mul, Int.mul_neg])
                · refine mm_lload dX4_compare_96 1 rfl ?_
                  refine mm_lload dX4_compare_98 0 rfl ?_
                  refine rm_callSr (As := [.long (lN ((p1) % (q1))), .long (lN ((r1) % (s1)))]) (rest := []) (d2 := 0) dX4_compare_100 zc_X4_24 rfl rfl (Nat.le_of_ble_eq_true rfl) (Nat.le_of_ble_eq_true rfl) (by decide) (cj_lcmp (a := (p1) % (q1)) (b := (r1) % (s1)) (by omega) (by omega)) ?_
                  refine mm_iload dX4_compare_103 4 rfl ?_
                  refine mm_imul dX4_compare_105 ?_
                  exact mm_iret dX4_compare_106 rfl ⟨rfl, by rw [i32_mul, Int.mul_comm, ← cmq_0 hq0 hs0 (by omega), ← hl, he]⟩
            · have hw : p1 / q1 ≠ r1 / s1 := fun z => c59 (by rw [z, cm3_eq]; rfl)
              refine mm_iload dX4_compare_62 0 rfl ?_
              refine mm_iload dX4_compare_64 2 rfl ?_
              refine mm_imul dX4_compare_66 ?_
              exact mm_iret dX4_compare_67 rfl ⟨rfl, by rw [i32_mul, Int.mul_comm, ← cmq_w hq0 hs0 hw, he]⟩
  refine mm_lload_n dX4_compare_0 rfl 0 rfl ?_
  refine mm_lstore (L' := [(8, .long (lN (p))), (0, .long (lN (p))), (2, .long (lN (q))), (4, .long (lN (r))), (6, .long (lN (s)))]) dX4_compare_1 (by decide) rfl ?_
  refine mm_lload_n dX4_compare_3 rfl 2 rfl ?_
  refine mm_lstore (L' := [(10, .long (lN (q))), (8, .long (lN (p))), (0, .long (lN (p))), (2, .long (lN (q))), (4, .long (lN (r))), (6, .long (lN (s)))]) dX4_compare_4 (by decide) rfl ?_
  refine mm_lload dX4_compare_6 4 rfl ?_
  refine mm_lstore (L' := [(12, .long (lN (r))), (10, .long (lN (q))), (8, .long (lN (p))), (0, .long (lN (p))), (2, .long (lN (q))), (4, .long (lN (r))), (6, .long (lN (s)))]) dX4_compare_8 (by decide) rfl ?_
  refine mm_lload dX4_compare_10 6 rfl ?_
  refine mm_lstore (L' := [(14, .long (lN (s))), (12, .long (lN (r))), (10, .long (lN (q))), (8, .long (lN (p))), (0, .long (lN (p))), (2, .long (lN (q))), (4, .long (lN (r))), (6, .long (lN (s)))]) dX4_compare_12 (by decide) rfl ?_
  refine mm_iconst (v := nI 1) dX4_compare_14 (by decide) ?_
  refine mm_istore (L' := [(16, .int (nI (1))), (14, .long (lN (s))), (12, .long (lN (r))), (10, .long (lN (q))), (8, .long (lN (p))), (0, .long (lN (p))), (2, .long (lN (q))), (4, .long (lN (r))), (6, .long (lN (s)))]) dX4_compare_15 (by decide) rfl ?_
  refine mm_iconst (v := nI 0) dX4_compare_17 (by decide) ?_
  refine mm_istore (L' := [(17, .int (nI (0))), (16, .int (nI (1))), (14, .long (lN (s))), (12, .long (lN (r))), (10, .long (lN (q))), (8, .long (lN (p))), (0, .long (lN (p))), (2, .long (lN (q))), (4, .long (lN (r))), (6, .long (lN (s)))]) dX4_compare_18 (by decide) rfl ?_
  refine mn_sub [0, 1, 2, 3, 4, 5, 6, 7, 8, 9] rfl ?_
  exact lp (2 * 63) 0 p q r s 1 (by omega) hp hq hr hs hq0 hs0 (gs_lt 63 p q hq) (Int.one_mul _)
