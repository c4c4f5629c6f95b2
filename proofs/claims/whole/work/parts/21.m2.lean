theorem tm_in {x : Int32} {a b : Int64} {lo hi : Int} (ha : a.toInt = lo) (hb : b.toInt = hi) : decide (a ≤ x.toInt64 ∧ x.toInt64 ≤ b) = decide (lo ≤ x.toInt ∧ x.toInt ≤ hi) := by
  simp only [Int64.le_iff_toInt_le, ha, hb, Int32.toInt_toInt64]
set_option maxRecDepth 100000 in
set_option maxHeartbeats 4000000 in
theorem tm_cap {l : Launch} {D : va_G} {aa : Nat → ClassId} {b0 : Nat} {h : mm_H}  {n : Nat} (hn : n < 2 ^ 63) : mm_V (zz_K l D aa b0) 0 yX12_cap cX12_cap 2 (some .int) 0 [(0, .long (lN (n)))] [] h 0 0 (fun r h' => h' = h ∧ r = some (.int (nI (min n 3000)))) := by
  refine mm_lload_n dX12_cap_0 rfl 0 rfl ?_
  refine mm_ldc2 (v := (3000)) dX12_cap_1 zk_181 ?_
  refine mn_top (u := .long (lN (3000))) (congrArg Value.long (by decide)) ?_
  refine mm_lcmp dX12_cap_4 ?_
  refine mm_if_le (tgt := 14) dX12_cap_5 (by decide) (fun c5 => ?_) (fun c5 => ?_)
  · refine mm_lload_n dX12_cap_14 rfl 0 rfl ?_
    refine mn_l2i dX12_cap_15 ?_
    exact mm_iret dX12_cap_16 rfl (⟨rfl, by rw [show min n 3000 = n from by have := (lg_cmp_le (lN n) (lN 3000)).mp c5; rw [pk_lLE hn (by omega)] at this; omega]⟩)
  · refine mm_sipush (v := nI 3000) dX12_cap_8 (by decide) ?_
    refine mm_goto (tgt := 16) dX12_cap_11 (by decide) ?_
    exact mm_iret dX12_cap_16 rfl (⟨rfl, by rw [show min n 3000 = 3000 from by have := (not_congr (lg_cmp_le (lN n) (lN 3000))).mp c5; rw [pk_lLE hn (by omega)] at this; omega]⟩)
set_option maxRecDepth 100000 in
set_option maxHeartbeats 4000000 in
theorem tm_waysOf {l : Launch} {D : va_G} {aa : Nat → ClassId} {b0 : Nat} {h : mm_H} {o : Nat} {F : Nat → Int32} {G : Nat → Int64} {A : Nat → Nat → Int32} {B : Nat → Nat → Int64} (ha : rm_at o F G A B h) {T : Nat → Nat} (ht : tb_at A T) {what kind a b : Nat} (hw : what < 2) (hk : kind < 100) (hal : a < 100) (hbl : b < 25) : mm_V (zz_K l D aa b0) 0 yX12_waysOf cX12_waysOf 5 (some .int) 0 [(0, .ref (o)), (1, .int (nI (what))), (2, .int (nI (kind))), (3, .int (nI (a))), (4, .int (nI (b)))] [] h 0 0 (fun r h' => h' = h ∧ r = some (.int (nI (tb_w T what kind a b)))) := by
  refine mm_iload_n dX12_waysOf_0 rfl 2 rfl ?_
  refine mm_bipush (v := nI 6) dX12_waysOf_1 (by decide) ?_
  refine mn_icmp_gt (tgt := 12) dX12_waysOf_3 (by decide) (by omega) (by omega) (fun c3 => ?_) (fun c3 => ?_)
  · refine mm_iconst (v := nI 0) dX12_waysOf_12 (by decide) ?_
    refine mm_goto (tgt := 41) dX12_waysOf_13 (by decide) ?_
    exact mm_iret dX12_waysOf_41 rfl (⟨rfl, by rw [show tb_w T what kind a b = 0 from if_pos (by omega)]⟩)
  · refine mm_iload_n dX12_waysOf_6 rfl 3 rfl ?_
    refine mm_iload dX12_waysOf_7 4 rfl ?_
    refine mn_icmp_le (tgt := 16) dX12_waysOf_9 (by decide) (by omega) (by omega) (fun c9 => ?_) (fun c9 => ?_)
    · refine mm_aload_n dX12_waysOf_16 rfl 0 rfl ?_
      refine rm_getA 19 dX12_waysOf_17 ha zf_ways (by decide) rfl ?_
      refine mm_iload_n dX12_waysOf_20 rfl 1 rfl ?_
      refine mm_bipush (v := nI 7) dX12_waysOf_21 (by decide) ?_
      refine mn_imul dX12_waysOf_23 ?_
      refine mm_iload_n dX12_waysOf_24 rfl 2 rfl ?_
      refine mn_iadd dX12_waysOf_25 ?_
      refine mm_bipush (v := nI 25) dX12_waysOf_26 (by decide) ?_
      refine mn_imul dX12_waysOf_28 ?_
      refine mm_bipush (v := nI 25) dX12_waysOf_29 (by decide) ?_
      refine mn_imul dX12_waysOf_31 ?_
      refine mm_bipush (v := nI 25) dX12_waysOf_32 (by decide) ?_
      refine mm_iload_n dX12_waysOf_34 rfl 3 rfl ?_
      refine mn_imul dX12_waysOf_35 ?_
      refine mn_iadd dX12_waysOf_36 ?_
      refine mm_iload dX12_waysOf_37 4 rfl ?_
      refine mn_iadd dX12_waysOf_39 ?_
      refine rm_iald (k := 19) dX12_waysOf_40 ha rfl rfl rfl (show ((((((what) * (7)) + (kind)) * (25)) * (25)) + ((25) * (a))) + (b) < 8750 from (by omega)) ?_
      refine mn_top (u := .int (nI (T (((((((what) * (7)) + (kind)) * (25)) * (25)) + ((25) * (a))) + (b))))) (congrArg Value.int ((ht (((((((what) * (7)) + (kind)) * (25)) * (25)) + ((25) * (a))) + (b)) (by omega)).1)) ?_
      exact mm_iret dX12_waysOf_41 rfl (⟨rfl, by rw [show tb_w T what kind a b = _ from if_neg (by omega)]⟩)
    · refine mm_iconst (v := nI 0) dX12_waysOf_12 (by decide) ?_
      refine mm_goto (tgt := 41) dX12_waysOf_13 (by decide) ?_
      exact mm_iret dX12_waysOf_41 rfl (⟨rfl, by rw [show tb_w T what kind a b = 0 from if_pos (by omega)]⟩)
set_option maxRecDepth 100000 in
set_option maxHeartbeats 4000000 in
theorem tm_thirdWays {l : Launch} {D : va_G} {aa : Nat → ClassId} {b0 : Nat} {h : mm_H} {o : Nat} {F : Nat → Int32} {G : Nat → Int64} {A : Nat → Nat → Int32} {B : Nat → Nat → Int64} (ha : rm_at o F G A B h) {w : ro_w} (hw : ro_at F A w) {k a b : Nat} (hk : k < 50) (hal : a < 50) (hbl : b < 50) : mm_V (zz_K l D aa b0) 1 yX12_thirdWays cX12_thirdWays 4 (some .int) 0 [(0, .ref (o)), (1, .int (nI (k))), (2, .int (nI (a))), (3, .int (nI (b)))] [] h 0 0 (fun r h' => h' = h ∧ r = some (.int (nI (ro_third w k a b)))) := by
  refine mm_iload_n dX12_thirdWays_0 rfl 3 rfl ?_
  refine mm_iload_n dX12_thirdWays_1 rfl 2 rfl ?_
  refine mm_iconst (v := nI 1) dX12_thirdWays_2 (by decide) ?_
  refine mn_iadd dX12_thirdWays_3 ?_
  refine mn_icmp_ne (tgt := 22) dX12_thirdWays_4 (by decide) (by omega) (by omega) (fun c4 => ?_) (fun c4 => ?_)
  · refine mm_iload_n dX12_thirdWays_22 rfl 3 rfl ?_
    refine mm_iload_n dX12_thirdWays_23 rfl 2 rfl ?_
    refine mm_iconst (v := nI 2) dX12_thirdWays_24 (by decide) ?_
    refine mn_iadd dX12_thirdWays_25 ?_
    refine mn_icmp_ne (tgt := 63) dX12_thirdWays_26 (by decide) (by omega) (by omega) (fun c26 => ?_) (fun c26 => ?_)
    · refine mm_iconst (v := nI 0) dX12_thirdWays_63 (by decide) ?_
      exact mm_iret dX12_thirdWays_64 rfl (⟨rfl, by rw [show ro_third w k a b = 0 from by unfold ro_third; simp_all <;> omega]⟩)
    · refine mm_iload_n dX12_thirdWays_29 rfl 1 rfl ?_
      refine mm_bipush (v := nI 6) dX12_thirdWays_30 (by decide) ?_
      refine mn_icmp_ge (tgt := 63) dX12_thirdWays_32 (by decide) (by omega) (by omega) (fun c32 => ?_) (fun c32 => ?_)
      · refine mm_iconst (v := nI 0) dX12_thirdWays_63 (by decide) ?_
        exact mm_iret dX12_thirdWays_64 rfl (⟨rfl, by rw [show ro_third w k a b = 0 from by unfold ro_third; simp_all <;> omega]⟩)
      · refine mm_aload_n dX12_thirdWays_35 rfl 0 rfl ?_
        refine mm_iload_n dX12_thirdWays_36 rfl 2 rfl ?_
        refine mm_iload_n dX12_thirdWays_37 rfl 1 rfl ?_
        refine mm_iconst (v := nI 1) dX12_thirdWays_38 (by decide) ?_
        refine mn_iadd dX12_thirdWays_39 ?_
        refine rm_callVr (As := [.int (nI (a)), .int (nI ((k) + (1)))]) (rest := []) (d2 := 0) dX12_thirdWays_40 ha zc_isDyed zc_isDyed_s rfl rfl rfl (Nat.le_of_ble_eq_true rfl) (Nat.le_of_ble_eq_true rfl) (by decide) (tm_isDyed ha hw (by omega) (by omega)) ?_
        refine mn_ifB_eq (tgt := 63) dX12_thirdWays_43 (by decide) (fun c43 => ?_) (fun c43 => ?_)
        · refine mm_iconst (v := nI 0) dX12_thirdWays_63 (by decide) ?_
          exact mm_iret dX12_thirdWays_64 rfl (⟨rfl, by rw [show ro_third w k a b = 0 from by unfold ro_third; simp_all <;> omega]⟩)
        · refine mm_aload_n dX12_thirdWays_46 rfl 0 rfl ?_
          refine mm_iload_n dX12_thirdWays_47 rfl 2 rfl ?_
          refine mm_iconst (v := nI 1) dX12_thirdWays_48 (by decide) ?_
          refine mn_iadd dX12_thirdWays_49 ?_
          refine mm_iload_n dX12_thirdWays_50 rfl 1 rfl ?_
          refine mm_iconst (v := nI 1) dX12_thirdWays_51 (by decide) ?_
          refine mn_iadd dX12_thirdWays_52 ?_
          refine rm_callVr (As := [.int (nI ((a) + (1))), .int (nI ((k) + (1)))]) (rest := []) (d2 := 0) dX12_thirdWays_53 ha zc_isDyed zc_isDyed_s rfl rfl rfl (Nat.le_of_ble_eq_true rfl) (Nat.le_of_ble_eq_true rfl) (by decide) (tm_isDyed ha hw (by omega) (by omega)) ?_
          refine mn_ifB_eq (tgt := 63) dX12_thirdWays_56 (by decide) (fun c56 => ?_) (fun c56 => ?_)
          · refine mm_iconst (v := nI 0) dX12_thirdWays_63 (by decide) ?_
            exact mm_iret dX12_thirdWays_64 rfl (⟨rfl, by rw [show ro_third w k a b = 0 from by unfold ro_third; simp_all <;> omega]⟩)
          · refine mm_iconst (v := nI 1) dX12_thirdWays_59 (by decide) ?_
            refine mm_goto (tgt := 64) dX12_thirdWays_60 (by decide) ?_
            exact mm_iret dX12_thirdWays_64 rfl (⟨rfl, by rw [show ro_third w k a b = 1 from by unfold ro_third; simp_all <;> omega]⟩)
  · refine mm_aload_n dX12_thirdWays_7 rfl 0 rfl ?_
    refine mm_iload_n dX12_thirdWays_8 rfl 2 rfl ?_
    refine mm_iload_n dX12_thirdWays_9 rfl 1 rfl ?_
    refine rm_callVr (As := [.int (nI (a)), .int (nI (k))]) (rest := []) (d2 := 0) dX12_thirdWays_10 ha zc_isDyed zc_isDyed_s rfl rfl rfl (Nat.le_of_ble_eq_true rfl) (Nat.le_of_ble_eq_true rfl) (by decide) (tm_isDyed ha hw (by omega) (by omega)) ?_
    refine mn_ifB_eq (tgt := 20) dX12_thirdWays_13 (by decide) (fun c13 => ?_) (fun c13 => ?_)
    · refine mm_iconst (v := nI 0) dX12_thirdWays_20 (by decide) ?_
      exact mm_iret dX12_thirdWays_21 rfl (⟨rfl, by rw [show ro_third w k a b = 0 from by unfold ro_third; simp_all <;> omega]⟩)
    · refine mm_iconst (v := nI 1) dX12_thirdWays_16 (by decide) ?_
      refine mm_goto (tgt := 21) dX12_thirdWays_17 (by decide) ?_
      exact mm_iret dX12_thirdWays_21 rfl (⟨rfl, by rw [show ro_third w k a b = 1 from by unfold ro_third; simp_all <;> omega]⟩)
set_option maxRecDepth 100000 in
set_option maxHeartbeats 4000000 in
theorem tm_offer {l : Launch} {D : va_G} {aa : Nat → ClassId} {b0 : Nat} {h : mm_H} {o : Nat} {F : Nat → Int32} {G : Nat → Int64} {A : Nat → Nat → Int32} {B : Nat → Nat → Int64} (ha : rm_at o F G A B h) {S : sc_S} (hs : sc_at F S) {form cut cut2 n : Nat} {dot : Bool} (hn : n < 1000000000) : mm_V (zz_K l D aa b0) 1 yX12_offer cX12_offer 7 none 0 [(0, .ref (o)), (1, .int (nI (form))), (2, .int (nI (cut))), (3, .int (nI (cut2))), (4, .int (nI (Bool.toNat (dot)))), (5, .long (lN (n)))] [] h 0 0 (fun r h' => r = none ∧ ∃ F' : Nat → Int32, rm_at o F' G A B h' ∧ rm_fr o h h' ∧ sc_at F' (sc_step S (form, cut, cut2, dot, n)) ∧ sc_F F F') := by
  have hc := hs.2.2.2.2.2.2.2.2.1
  have hw1 := hs.2.2.2.2.2.2.2.2.2.1
  have hw2 := hs.2.2.2.2.2.2.2.2.2.2
  have hf : rm_fr o h h := rm_fr.rf
  refine mm_lload dX12_offer_0 5 rfl ?_
  refine mm_lconst (v := lN 0) dX12_offer_2 (by decide) ?_
  refine mm_lcmp dX12_offer_3 ?_
  refine mm_if_ne (tgt := 8) dX12_offer_4 (by decide) (fun c4 => ?_) (fun c4 => ?_)
  · have hn0 : ¬ n = 0 := fun z => c4 ((lg_cmp_eq _ _).mpr (by rw [z]))
    refine mm_aload_n dX12_offer_8 rfl 0 rfl ?_
    refine rm_getI 23 dX12_offer_9 ha zf_isTaken (by decide) rfl rfl ?_
    refine mn_top (u := .int (nI (Bool.toNat (S.2.2.1)))) (congrArg Value.int ((hs.2.2.1))) ?_
    refine mn_ifB_ne (tgt := 82) dX12_offer_12 (by decide) (fun c12 => ?_) (fun c12 => ?_)
    · have nt : ¬ (S.2.2.1 = false ∧ (S.1 : Int) ≤ S.2.1 ∧ S.2.1 < (S.1 + n : Nat)) := fun z => by rw [c12] at z; exact absurd z.1 (by decide)
      refine mm_aload_n dX12_offer_82 rfl 0 rfl ?_
      refine mm_aload_n dX12_offer_83 rfl 0 rfl ?_
      refine rm_getI 21 dX12_offer_84 ha zf_counted (by decide) rfl rfl ?_
      refine mn_top (u := .int (nI (S.1))) (congrArg Value.int ((hs.1))) ?_
      refine mn_i2l dX12_offer_87 (by omega) ?_
      refine mm_lload dX12_offer_88 5 rfl ?_
      refine mn_ladd dX12_offer_90 ?_
      refine rm_callSr (As := [.long (lN ((S.1) + (n)))]) (rest := [.ref (o)]) (d2 := 0) dX12_offer_91 zc_cap rfl rfl (Nat.le_of_ble_eq_true rfl) (Nat.le_of_ble_eq_true rfl) (by decide) (tm_cap (n := S.1 + n) (by omega)) ?_
      refine rm_putI 21 dX12_offer_94 ha hf zf_counted (by decide) rfl rfl rfl rfl (fun h ha hf => ?_)
      have es : sc_step S (form, cut, cut2, dot, n) = (min (S.1 + n) 3000, S.2) := by unfold sc_step sc_take; dsimp only; rw [if_neg hn0, if_neg nt]
      exact mm_vret dX12_offer_97 rfl (⟨rfl, _, ha, hf, by rw [es]; exact ⟨(pk_us), (Eq.trans (pk_un (by decide)) ((hs.2.1))), (Eq.trans (pk_un (by decide)) ((hs.2.2.1))), (Eq.trans (pk_un (by decide)) ((hs.2.2.2.1))), (Eq.trans (pk_un (by decide)) ((hs.2.2.2.2.1))), (Eq.trans (pk_un (by decide)) ((hs.2.2.2.2.2.1))), (Eq.trans (pk_un (by decide)) ((hs.2.2.2.2.2.2.1))), (Eq.trans (pk_un (by decide)) ((hs.2.2.2.2.2.2.2.1))), by first | omega | exact hc, hw1, hw2⟩, (sc_F.rf).up (by decide)⟩)
    · refine mm_aload_n dX12_offer_15 rfl 0 rfl ?_
      refine rm_getI 22 dX12_offer_16 ha zf_wanted (by decide) rfl rfl ?_
      refine mn_top (u := .int (Int32.ofInt S.2.1)) (congrArg Value.int ((hs.2.1))) ?_
      refine mm_aload_n dX12_offer_19 rfl 0 rfl ?_
      refine rm_getI 21 dX12_offer_20 ha zf_counted (by decide) rfl rfl ?_
      refine mn_top (u := .int (nI (S.1))) (congrArg Value.int ((hs.1))) ?_
      refine mm_icmp_lt (tgt := 82) dX12_offer_23 (by decide) (fun c23 => ?_) (fun c23 => ?_)
      · have nt : ¬ (S.2.2.1 = false ∧ (S.1 : Int) ≤ S.2.1 ∧ S.2.1 < (S.1 + n : Nat)) := fun z => by have := (sc_lt hw1 hw2 (by omega)).mp c23; omega
        refine mm_aload_n dX12_offer_82 rfl 0 rfl ?_
        refine mm_aload_n dX12_offer_83 rfl 0 rfl ?_
        refine rm_getI 21 dX12_offer_84 ha zf_counted (by decide) rfl rfl ?_
        refine mn_top (u := .int (nI (S.1))) (congrArg Value.int ((hs.1))) ?_
        refine mn_i2l dX12_offer_87 (by omega) ?_
        refine mm_lload dX12_offer_88 5 rfl ?_
        refine mn_ladd dX12_offer_90 ?_
        refine rm_callSr (As := [.long (lN ((S.1) + (n)))]) (rest := [.ref (o)]) (d2 := 0) dX12_offer_91 zc_cap rfl rfl (Nat.le_of_ble_eq_true rfl) (Nat.le_of_ble_eq_true rfl) (by decide) (tm_cap (n := S.1 + n) (by omega)) ?_
        refine rm_putI 21 dX12_offer_94 ha hf zf_counted (by decide) rfl rfl rfl rfl (fun h ha hf => ?_)
        have es : sc_step S (form, cut, cut2, dot, n) = (min (S.1 + n) 3000, S.2) := by unfold sc_step sc_take; dsimp only; rw [if_neg hn0, if_neg nt]
        exact mm_vret dX12_offer_97 rfl (⟨rfl, _, ha, hf, by rw [es]; exact ⟨(pk_us), (Eq.trans (pk_un (by decide)) ((hs.2.1))), (Eq.trans (pk_un (by decide)) ((hs.2.2.1))), (Eq.trans (pk_un (by decide)) ((hs.2.2.2.1))), (Eq.trans (pk_un (by decide)) ((hs.2.2.2.2.1))), (Eq.trans (pk_un (by decide)) ((hs.2.2.2.2.2.1))), (Eq.trans (pk_un (by decide)) ((hs.2.2.2.2.2.2.1))), (Eq.trans (pk_un (by decide)) ((hs.2.2.2.2.2.2.2.1))), by first | omega | exact hc, hw1, hw2⟩, (sc_F.rf).up (by decide)⟩)
      · have tw1 : (S.1 : Int) ≤ S.2.1 := by have := (not_congr (sc_lt hw1 hw2 (by omega))).mp c23; omega
        refine mm_aload_n dX12_offer_26 rfl 0 rfl ?_
        refine rm_getI 22 dX12_offer_27 ha zf_wanted (by decide) rfl rfl ?_
        refine mn_top (u := .int (Int32.ofInt S.2.1)) (congrArg Value.int ((hs.2.1))) ?_
        refine mm_i2l dX12_offer_30 ?_
        refine mm_aload_n dX12_offer_31 rfl 0 rfl ?_
        refine rm_getI 21 dX12_offer_32 ha zf_counted (by decide) rfl rfl ?_
        refine mn_top (u := .int (nI (S.1))) (congrArg Value.int ((hs.1))) ?_
        refine mn_i2l dX12_offer_35 (by omega) ?_
        refine mm_lload dX12_offer_36 5 rfl ?_
        refine mn_ladd dX12_offer_38 ?_
        refine mm_lcmp dX12_offer_39 ?_
        refine mm_if_ge (tgt := 82) dX12_offer_40 (by decide) (fun c40 => ?_) (fun c40 => ?_)
        · have nt : ¬ (S.2.2.1 = false ∧ (S.1 : Int) ≤ S.2.1 ∧ S.2.1 < (S.1 + n : Nat)) := fun z => by have := (lg_cmp_ge _ _).mp c40; rw [← Int64.not_lt, sc_llt hw1 hw2 (by omega)] at this; omega
          refine mm_aload_n dX12_offer_82 rfl 0 rfl ?_
          refine mm_aload_n dX12_offer_83 rfl 0 rfl ?_
          refine rm_getI 21 dX12_offer_84 ha zf_counted (by decide) rfl rfl ?_
          refine mn_top (u := .int (nI (S.1))) (congrArg Value.int ((hs.1))) ?_
          refine mn_i2l dX12_offer_87 (by omega) ?_
          refine mm_lload dX12_offer_88 5 rfl ?_
          refine mn_ladd dX12_offer_90 ?_
          refine rm_callSr (As := [.long (lN ((S.1) + (n)))]) (rest := [.ref (o)]) (d2 := 0) dX12_offer_91 zc_cap rfl rfl (Nat.le_of_ble_eq_true rfl) (Nat.le_of_ble_eq_true rfl) (by decide) (tm_cap (n := S.1 + n) (by omega)) ?_
          refine rm_putI 21 dX12_offer_94 ha hf zf_counted (by decide) rfl rfl rfl rfl (fun h ha hf => ?_)
          have es : sc_step S (form, cut, cut2, dot, n) = (min (S.1 + n) 3000, S.2) := by unfold sc_step sc_take; dsimp only; rw [if_neg hn0, if_neg nt]
          exact mm_vret dX12_offer_97 rfl (⟨rfl, _, ha, hf, by rw [es]; exact ⟨(pk_us), (Eq.trans (pk_un (by decide)) ((hs.2.1))), (Eq.trans (pk_un (by decide)) ((hs.2.2.1))), (Eq.trans (pk_un (by decide)) ((hs.2.2.2.1))), (Eq.trans (pk_un (by decide)) ((hs.2.2.2.2.1))), (Eq.trans (pk_un (by decide)) ((hs.2.2.2.2.2.1))), (Eq.trans (pk_un (by decide)) ((hs.2.2.2.2.2.2.1))), (Eq.trans (pk_un (by decide)) ((hs.2.2.2.2.2.2.2.1))), by first | omega | exact hc, hw1, hw2⟩, (sc_F.rf).up (by decide)⟩)
        · have tw2 : S.2.1 < (S.1 + n : Nat) := by have := (not_congr (lg_cmp_ge _ _)).mp c40; rw [Int64.not_le, sc_llt hw1 hw2 (by omega)] at this; exact this
          refine mm_aload_n dX12_offer_43 rfl 0 rfl ?_
          refine mm_iconst (v := nI 1) dX12_offer_44 (by decide) ?_
          refine rm_putI 23 dX12_offer_45 ha hf zf_isTaken (by decide) rfl rfl (by decide) (by decide) (fun h ha hf => ?_)
          refine mm_aload_n dX12_offer_48 rfl 0 rfl ?_
          refine mm_iload_n dX12_offer_49 rfl 1 rfl ?_
          refine rm_putI 24 dX12_offer_50 ha hf zf_takenForm (by decide) rfl rfl rfl rfl (fun h ha hf => ?_)
          refine mm_aload_n dX12_offer_53 rfl 0 rfl ?_
          refine mm_iload_n dX12_offer_54 rfl 2 rfl ?_
          refine rm_putI 25 dX12_offer_55 ha hf zf_takenCut (by decide) rfl rfl rfl rfl (fun h ha hf => ?_)
          refine mm_aload_n dX12_offer_58 rfl 0 rfl ?_
          refine mm_iload_n dX12_offer_59 rfl 3 rfl ?_
          refine rm_putI 26 dX12_offer_60 ha hf zf_takenCut2 (by decide) rfl rfl rfl rfl (fun h ha hf => ?_)
          refine mm_aload_n dX12_offer_63 rfl 0 rfl ?_
          refine mm_iload dX12_offer_64 4 rfl ?_
          refine rm_putI 27 dX12_offer_66 ha hf zf_takenDot (by decide) rfl rfl (mn_nz _) (mn_fz _) (fun h ha hf => ?_)
          refine mm_aload_n dX12_offer_69 rfl 0 rfl ?_
          refine mm_aload_n dX12_offer_70 rfl 0 rfl ?_
          refine rm_getI 22 dX12_offer_71 ha zf_wanted (by decide) rfl rfl ?_
          refine mn_top (u := .int (Int32.ofInt S.2.1)) (congrArg Value.int (Eq.trans (pk_un (by decide)) (Eq.trans (pk_un (by decide)) (Eq.trans (pk_un (by decide)) (Eq.trans (pk_un (by decide)) (Eq.trans (pk_un (by decide)) ((hs.2.1)))))))) ?_
          refine mm_aload_n dX12_offer_74 rfl 0 rfl ?_
          refine rm_getI 21 dX12_offer_75 ha zf_counted (by decide) rfl rfl ?_
          refine mn_top (u := .int (nI (S.1))) (congrArg Value.int (Eq.trans (pk_un (by decide)) (Eq.trans (pk_un (by decide)) (Eq.trans (pk_un (by decide)) (Eq.trans (pk_un (by decide)) (Eq.trans (pk_un (by decide)) ((hs.1)))))))) ?_
          refine mm_isub dX12_offer_78 ?_
          refine mn_top (u := .int (nI (S.2.1.toNat - S.1))) (congrArg Value.int (sc_sub tw1 hw2)) ?_
          refine rm_putI 28 dX12_offer_79 ha hf zf_takenRank (by decide) rfl rfl rfl rfl (fun h ha hf => ?_)
          refine mm_aload_n dX12_offer_82 rfl 0 rfl ?_
          refine mm_aload_n dX12_offer_83 rfl 0 rfl ?_
          refine rm_getI 21 dX12_offer_84 ha zf_counted (by decide) rfl rfl ?_
          refine mn_top (u := .int (nI (S.1))) (congrArg Value.int (Eq.trans (pk_un (by decide)) (Eq.trans (pk_un (by decide)) (Eq.trans (pk_un (by decide)) (Eq.trans (pk_un (by decide)) (Eq.trans (pk_un (by decide)) (Eq.trans (pk_un (by decide)) ((hs.1))))))))) ?_
          refine mn_i2l dX12_offer_87 (by omega) ?_
          refine mm_lload dX12_offer_88 5 rfl ?_
          refine mn_ladd dX12_offer_90 ?_
          refine rm_callSr (As := [.long (lN ((S.1) + (n)))]) (rest := [.ref (o)]) (d2 := 0) dX12_offer_91 zc_cap rfl rfl (Nat.le_of_ble_eq_true rfl) (Nat.le_of_ble_eq_true rfl) (by decide) (tm_cap (n := S.1 + n) (by omega)) ?_
          refine rm_putI 21 dX12_offer_94 ha hf zf_counted (by decide) rfl rfl rfl rfl (fun h ha hf => ?_)
          have es : sc_step S (form, cut, cut2, dot, n) = (min (S.1 + n) 3000, S.2.1, true, form, cut, cut2, dot, S.2.1.toNat - S.1) := by unfold sc_step sc_take; dsimp only; rw [if_neg hn0, if_pos ⟨c12, tw1, tw2⟩]
          exact mm_vret dX12_offer_97 rfl (⟨rfl, _, ha, hf, by rw [es]; exact ⟨(pk_us), (Eq.trans (pk_un (by decide)) (Eq.trans (pk_un (by decide)) (Eq.trans (pk_un (by decide)) (Eq.trans (pk_un (by decide)) (Eq.trans (pk_un (by decide)) (Eq.trans (pk_un (by decide)) (Eq.trans (pk_un (by decide)) ((hs.2.1))))))))), (Eq.trans (pk_un (by decide)) (Eq.trans (pk_un (by decide)) (Eq.trans (pk_un (by decide)) (Eq.trans (pk_un (by decide)) (Eq.trans (pk_un (by decide)) (Eq.trans (pk_un (by decide)) (pk_us))))))), (Eq.trans (pk_un (by decide)) (Eq.trans (pk_un (by decide)) (Eq.trans (pk_un (by decide)) (Eq.trans (pk_un (by decide)) (Eq.trans (pk_un (by decide)) (pk_us)))))), (Eq.trans (pk_un (by decide)) (Eq.trans (pk_un (by decide)) (Eq.trans (pk_un (by decide)) (Eq.trans (pk_un (by decide)) (pk_us))))), (Eq.trans (pk_un (by decide)) (Eq.trans (pk_un (by decide)) (Eq.trans (pk_un (by decide)) (pk_us)))), (Eq.trans (pk_un (by decide)) (Eq.trans (pk_un (by decide)) (pk_us))), (Eq.trans (pk_un (by decide)) (pk_us)), by first | omega | exact hc, hw1, hw2⟩, (((((((sc_F.rf).up (by decide)).up (by decide)).up (by decide)).up (by decide)).up (by decide)).up (by decide)).up (by decide)⟩)
  · have hn0 : n = 0 := (lN_eq (by omega) (by omega)).mp ((lg_cmp_eq _ _).mp c4)
    exact mm_vret dX12_offer_7 rfl (⟨rfl, _, ha, hf, by rw [show sc_step S (form, cut, cut2, dot, n) = S from if_pos hn0]; exact hs, sc_F.rf⟩)
