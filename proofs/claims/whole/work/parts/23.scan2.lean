set_option maxRecDepth 100000 in
set_option maxHeartbeats 4000000 in
theorem tm_scanPair {l : Launch} {D : va_G} {aa : Nat → ClassId} {b0 : Nat} {h : mm_H} {o : Nat} {F : Nat → Int32} {G : Nat → Int64} {A : Nat → Nat → Int32} {B : Nat → Nat → Int64} (ha : rm_at o F G A B h) {w : ro_w} {sg g : Nat} {T : Nat → Nat} (hx0 : cx_at F A w sg g T) {S Sf : sc_S} (hs : sc_at F S) {k a b : Nat} (hk : k < 7) (hab : a < b) (hb : b ≤ 24) (hSf : List.foldl sc_step S (sp_pair w sg T k a b) = Sf) : mm_V (zz_K l D aa b0) 3 yX12_scanPair cX12_scanPair 4 none 0 [(0, .ref (o)), (1, .int (nI (k))), (2, .int (nI (a))), (3, .int (nI (b)))] [] h 0 0 (fun r h' => r = none ∧ ∃ F' : Nat → Int32, rm_at o F' G A B h' ∧ rm_fr o h h' ∧ sc_at F' Sf ∧ sc_F F F') := by
  have hf0 : rm_fr o h h := rm_fr.rf
  have hF0 : sc_F F F := sc_F.rf
  have K112 : ∀ (S : sc_S), List.foldl sc_step S (sp_thirds w k a b) = Sf → ∀ (F1 : Nat → Int32) (h1 : mm_H), rm_at o F1 G A B h1 → rm_fr o h h1 → sc_F F F1 → sc_at F1 S → mm_V (zz_K l D aa b0) 3 yX12_scanPair cX12_scanPair 4 none 112 [(0, .ref (o)), (1, .int (nI (k))), (2, .int (nI (a))), (3, .int (nI (b)))] [] h1 0 0 (fun r h' => r = none ∧ ∃ F' : Nat → Int32, rm_at o F' G A B h' ∧ rm_fr o h h' ∧ sc_at F' Sf ∧ sc_F F F') := by
    intro S hS F1 h1 ha hf hF hs
    have hx := cx_F hF hx0
    have hw := hx.1
    have ht := hx.2.2.2.1
    refine mm_aload_n dX12_scanPair_112 rfl 0 rfl ?_
    refine mm_iload_n dX12_scanPair_113 rfl 1 rfl ?_
    refine mm_iload_n dX12_scanPair_114 rfl 2 rfl ?_
    refine mm_iload_n dX12_scanPair_115 rfl 3 rfl ?_
    refine rm_callV (As := [.int (nI (k)), .int (nI (a)), .int (nI (b))]) (rest := []) (d2 := 2) dX12_scanPair_116 ha zc_scanThirds zc_scanThirds_s rfl rfl rfl (Nat.le_of_ble_eq_true rfl) (Nat.le_of_ble_eq_true rfl) (by decide) (tm_scanThirds ha hx hs (by omega) (by omega) (by omega) rfl) (fun r h1 hq => ?_)
    obtain ⟨rfl, F1, ha, hf', hs, hF'⟩ := hq
    have hf := hf.tr hf'
    have hF := hF.tr hF'
    have hx := cx_F hF hx0
    have hw := hx.1
    have ht := hx.2.2.2.1
    exact mm_vret dX12_scanPair_119 rfl (⟨rfl, _, ha, hf, by rw [← hS]; exact hs, hF⟩)
  have K60 : ∀ (S : sc_S), List.foldl sc_step S ((if a + 2 < b ∧ ro_plain w (b - 2) k = true ∧ ro_dot w (b - 1) = true then [(14, b - 2, 0, false, tb_w T 0 (k + 1) a (b - 2))] else []) ++ sp_thirds w k a b) = Sf → ∀ (F1 : Nat → Int32) (h1 : mm_H), rm_at o F1 G A B h1 → rm_fr o h h1 → sc_F F F1 → sc_at F1 S → mm_V (zz_K l D aa b0) 3 yX12_scanPair cX12_scanPair 4 none 60 [(0, .ref (o)), (1, .int (nI (k))), (2, .int (nI (a))), (3, .int (nI (b)))] [] h1 0 0 (fun r h' => r = none ∧ ∃ F' : Nat → Int32, rm_at o F' G A B h' ∧ rm_fr o h h' ∧ sc_at F' Sf ∧ sc_F F F') := by
    intro S hS F1 h1 ha hf hF hs
    have hx := cx_F hF hx0
    have hw := hx.1
    have ht := hx.2.2.2.1
    by_cases hb2 : 2 ≤ b
    · refine mm_iload_n dX12_scanPair_60 rfl 3 rfl ?_
      refine mm_iconst (v := nI 2) dX12_scanPair_61 (by decide) ?_
      refine mn_isub dX12_scanPair_62 (by omega) ?_
      refine mm_iload_n dX12_scanPair_63 rfl 2 rfl ?_
      refine mn_icmp_le (tgt := 112) dX12_scanPair_64 (by decide) (by omega) (by omega) (fun c64 => ?_) (fun c64 => ?_)
      · exact K112  _ (by rw [if_neg (by rintro ⟨z1, z2, z3⟩; first | omega | simp_all)] at hS; exact hS) _ _ ha hf hF hs
      · refine mm_aload_n dX12_scanPair_67 rfl 0 rfl ?_
        refine mm_iload_n dX12_scanPair_68 rfl 3 rfl ?_
        refine mm_iconst (v := nI 2) dX12_scanPair_69 (by decide) ?_
        refine mn_isub dX12_scanPair_70 (by omega) ?_
        refine mm_iload_n dX12_scanPair_71 rfl 1 rfl ?_
        refine rm_callVr (As := [.int (nI ((b) - (2))), .int (nI (k))]) (rest := []) (d2 := 0) dX12_scanPair_72 ha zc_isPlain zc_isPlain_s rfl rfl rfl (Nat.le_of_ble_eq_true rfl) (Nat.le_of_ble_eq_true rfl) (by decide) (tm_isPlain ha hw (by omega) (by omega)) ?_
        refine mn_ifB_eq (tgt := 112) dX12_scanPair_75 (by decide) (fun c75 => ?_) (fun c75 => ?_)
        · exact K112  _ (by rw [if_neg (by rintro ⟨z1, z2, z3⟩; first | omega | simp_all)] at hS; exact hS) _ _ ha hf hF hs
        · refine mm_aload_n dX12_scanPair_78 rfl 0 rfl ?_
          refine mm_iload_n dX12_scanPair_79 rfl 3 rfl ?_
          refine mm_iconst (v := nI 1) dX12_scanPair_80 (by decide) ?_
          refine mn_isub dX12_scanPair_81 (by omega) ?_
          refine rm_callVr (As := [.int (nI ((b) - (1)))]) (rest := []) (d2 := 0) dX12_scanPair_82 ha zc_isDot zc_isDot_s rfl rfl rfl (Nat.le_of_ble_eq_true rfl) (Nat.le_of_ble_eq_true rfl) (by decide) (tm_isDot ha hw (by omega)) ?_
          refine mn_ifB_eq (tgt := 112) dX12_scanPair_85 (by decide) (fun c85 => ?_) (fun c85 => ?_)
          · exact K112  _ (by rw [if_neg (by rintro ⟨z1, z2, z3⟩; first | omega | simp_all)] at hS; exact hS) _ _ ha hf hF hs
          · refine mm_aload_n dX12_scanPair_88 rfl 0 rfl ?_
            refine mm_bipush (v := nI 14) dX12_scanPair_89 (by decide) ?_
            refine mm_iload_n dX12_scanPair_91 rfl 3 rfl ?_
            refine mm_iconst (v := nI 2) dX12_scanPair_92 (by decide) ?_
            refine mn_isub dX12_scanPair_93 (by omega) ?_
            refine mm_iconst (v := nI 0) dX12_scanPair_94 (by decide) ?_
            refine mm_iconst (v := nI 0) dX12_scanPair_95 (by decide) ?_
            refine mm_aload_n dX12_scanPair_96 rfl 0 rfl ?_
            refine mm_iconst (v := nI 0) dX12_scanPair_97 (by decide) ?_
            refine mm_iload_n dX12_scanPair_98 rfl 1 rfl ?_
            refine mm_iconst (v := nI 1) dX12_scanPair_99 (by decide) ?_
            refine mn_iadd dX12_scanPair_100 ?_
            refine mm_iload_n dX12_scanPair_101 rfl 2 rfl ?_
            refine mm_iload_n dX12_scanPair_102 rfl 3 rfl ?_
            refine mm_iconst (v := nI 2) dX12_scanPair_103 (by decide) ?_
            refine mn_isub dX12_scanPair_104 (by omega) ?_
            refine rm_callVr (As := [.int (nI (0)), .int (nI ((k) + (1))), .int (nI (a)), .int (nI ((b) - (2)))]) (rest := [.int (nI (0)), .int (nI (0)), .int (nI ((b) - (2))), .int (nI (14)), .ref (o)]) (d2 := 0) dX12_scanPair_105 ha zc_waysOf zc_waysOf_s rfl rfl rfl (Nat.le_of_ble_eq_true rfl) (Nat.le_of_ble_eq_true rfl) (by decide) (tm_waysOf ha ht (by omega) (by omega) (by omega) (by omega)) ?_
            have wb105 : tb_w T (0) ((k) + (1)) (a) ((b) - (2)) ≤ 3000 := tb_le ht (by omega) (by omega)
            refine mn_i2l dX12_scanPair_108 (by omega) ?_
            refine rm_callV (As := [.int (nI (14)), .int (nI ((b) - (2))), .int (nI (0)), .int (nI (0)), .long (lN (tb_w T (0) ((k) + (1)) (a) ((b) - (2))))]) (rest := []) (d2 := 1) dX12_scanPair_109 ha zc_offer zc_offer_s rfl rfl rfl (Nat.le_of_ble_eq_true rfl) (Nat.le_of_ble_eq_true rfl) (by decide) (tm_offer (form := 14) (cut := (b) - (2)) (cut2 := 0) (dot := false) (n := tb_w T (0) ((k) + (1)) (a) ((b) - (2))) ha hs (by omega)) (fun r h1 hq => ?_)
            obtain ⟨rfl, F1, ha, hf', hs, hF'⟩ := hq
            have hf := hf.tr hf'
            have hF := hF.tr hF'
            have hx := cx_F hF hx0
            have hw := hx.1
            have ht := hx.2.2.2.1
            exact K112  _ (by rw [if_pos ⟨by omega, c75, c85⟩] at hS; exact hS) _ _ ha hf hF hs
    · refine mm_iload_n dX12_scanPair_60 rfl 3 rfl ?_
      refine mm_iconst (v := nI 2) dX12_scanPair_61 (by decide) ?_
      refine mm_isub dX12_scanPair_62 ?_
      refine mm_iload_n dX12_scanPair_63 rfl 2 rfl ?_
      refine mm_icmp_le (tgt := 112) dX12_scanPair_64 (by decide) (fun c64 => ?_) (fun c64 => ?_)
      · exact K112  _ (by rw [if_neg (by rintro ⟨z1, z2, z3⟩; omega)] at hS; exact hS) _ _ ha hf hF hs
      · exact absurd (by rw [show b = 1 from by omega, show a = 0 from by omega]; decide) c64
  have K0 : ∀ (S : sc_S), List.foldl sc_step S (sp_pair w sg T k a b) = Sf → ∀ (F1 : Nat → Int32) (h1 : mm_H), rm_at o F1 G A B h1 → rm_fr o h h1 → sc_F F F1 → sc_at F1 S → mm_V (zz_K l D aa b0) 3 yX12_scanPair cX12_scanPair 4 none 0 [(0, .ref (o)), (1, .int (nI (k))), (2, .int (nI (a))), (3, .int (nI (b)))] [] h1 0 0 (fun r h' => r = none ∧ ∃ F' : Nat → Int32, rm_at o F' G A B h' ∧ rm_fr o h h' ∧ sc_at F' Sf ∧ sc_F F F') := by
    intro S hS F1 h1 ha hf hF hs
    have hx := cx_F hF hx0
    have hw := hx.1
    have ht := hx.2.2.2.1
    unfold sp_pair at hS
    refine mm_aload_n dX12_scanPair_0 rfl 0 rfl ?_
    refine rm_getI 12 dX12_scanPair_1 ha zf_sign (by decide) rfl rfl ?_
    refine mn_top (u := .int (nI (sg))) (congrArg Value.int ((hx.2.1.1))) ?_
    refine mm_iload_n dX12_scanPair_4 rfl 1 rfl ?_
    refine rm_callSr (As := [.int (nI (sg)), .int (nI (k))]) (rest := []) (d2 := 0) dX12_scanPair_5 zc_isPerfect rfl rfl (Nat.le_of_ble_eq_true rfl) (Nat.le_of_ble_eq_true rfl) (by decide) (tm_isPerfect hx.2.1.2 (by omega)) ?_
    refine mn_ifB_ne (tgt := 112) dX12_scanPair_8 (by decide) (fun c8 => ?_) (fun c8 => ?_)
    · exact K112  _ (by rw [if_neg (by rintro ⟨z1, z2⟩; first | omega | simp_all)] at hS; exact hS) _ _ ha hf hF hs
    · refine mm_iload_n dX12_scanPair_11 rfl 1 rfl ?_
      refine mm_bipush (v := nI 6) dX12_scanPair_12 (by decide) ?_
      refine mn_icmp_ge (tgt := 112) dX12_scanPair_14 (by decide) (by omega) (by omega) (fun c14 => ?_) (fun c14 => ?_)
      · exact K112  _ (by rw [if_neg (by rintro ⟨z1, z2⟩; first | omega | simp_all)] at hS; exact hS) _ _ ha hf hF hs
      · refine mm_aload_n dX12_scanPair_17 rfl 0 rfl ?_
        refine mm_iload_n dX12_scanPair_18 rfl 2 rfl ?_
        refine mm_iload_n dX12_scanPair_19 rfl 1 rfl ?_
        refine rm_callVr (As := [.int (nI (a)), .int (nI (k))]) (rest := []) (d2 := 0) dX12_scanPair_20 ha zc_isPlain zc_isPlain_s rfl rfl rfl (Nat.le_of_ble_eq_true rfl) (Nat.le_of_ble_eq_true rfl) (by decide) (tm_isPlain ha hw (by omega) (by omega)) ?_
        refine mn_ifB_eq (tgt := 60) dX12_scanPair_23 (by decide) (fun c23 => ?_) (fun c23 => ?_)
        · exact K60  _ (by rw [if_pos ⟨c8, by omega⟩, if_neg (by rintro ⟨z1, z2⟩; simp_all)] at hS; exact hS) _ _ ha hf hF hs
        · refine mm_aload_n dX12_scanPair_26 rfl 0 rfl ?_
          refine mm_iload_n dX12_scanPair_27 rfl 2 rfl ?_
          refine mm_iconst (v := nI 1) dX12_scanPair_28 (by decide) ?_
          refine mn_iadd dX12_scanPair_29 ?_
          refine rm_callVr (As := [.int (nI ((a) + (1)))]) (rest := []) (d2 := 0) dX12_scanPair_30 ha zc_isDot zc_isDot_s rfl rfl rfl (Nat.le_of_ble_eq_true rfl) (Nat.le_of_ble_eq_true rfl) (by decide) (tm_isDot ha hw (by omega)) ?_
          refine mn_ifB_eq (tgt := 60) dX12_scanPair_33 (by decide) (fun c33 => ?_) (fun c33 => ?_)
          · exact K60  _ (by rw [if_pos ⟨c8, by omega⟩, if_neg (by rintro ⟨z1, z2⟩; simp_all)] at hS; exact hS) _ _ ha hf hF hs
          · refine mm_aload_n dX12_scanPair_36 rfl 0 rfl ?_
            refine mm_bipush (v := nI 13) dX12_scanPair_37 (by decide) ?_
            refine mm_iload_n dX12_scanPair_39 rfl 2 rfl ?_
            refine mm_iconst (v := nI 2) dX12_scanPair_40 (by decide) ?_
            refine mn_iadd dX12_scanPair_41 ?_
            refine mm_iconst (v := nI 0) dX12_scanPair_42 (by decide) ?_
            refine mm_iconst (v := nI 0) dX12_scanPair_43 (by decide) ?_
            refine mm_aload_n dX12_scanPair_44 rfl 0 rfl ?_
            refine mm_iconst (v := nI 0) dX12_scanPair_45 (by decide) ?_
            refine mm_iload_n dX12_scanPair_46 rfl 1 rfl ?_
            refine mm_iconst (v := nI 1) dX12_scanPair_47 (by decide) ?_
            refine mn_iadd dX12_scanPair_48 ?_
            refine mm_iload_n dX12_scanPair_49 rfl 2 rfl ?_
            refine mm_iconst (v := nI 2) dX12_scanPair_50 (by decide) ?_
            refine mn_iadd dX12_scanPair_51 ?_
            refine mm_iload_n dX12_scanPair_52 rfl 3 rfl ?_
            refine rm_callVr (As := [.int (nI (0)), .int (nI ((k) + (1))), .int (nI ((a) + (2))), .int (nI (b))]) (rest := [.int (nI (0)), .int (nI (0)), .int (nI ((a) + (2))), .int (nI (13)), .ref (o)]) (d2 := 0) dX12_scanPair_53 ha zc_waysOf zc_waysOf_s rfl rfl rfl (Nat.le_of_ble_eq_true rfl) (Nat.le_of_ble_eq_true rfl) (by decide) (tm_waysOf ha ht (by omega) (by omega) (by omega) (by omega)) ?_
            have wb53 : tb_w T (0) ((k) + (1)) ((a) + (2)) (b) ≤ 3000 := tb_le ht (by omega) (by omega)
            refine mn_i2l dX12_scanPair_56 (by omega) ?_
            refine rm_callV (As := [.int (nI (13)), .int (nI ((a) + (2))), .int (nI (0)), .int (nI (0)), .long (lN (tb_w T (0) ((k) + (1)) ((a) + (2)) (b)))]) (rest := []) (d2 := 1) dX12_scanPair_57 ha zc_offer zc_offer_s rfl rfl rfl (Nat.le_of_ble_eq_true rfl) (Nat.le_of_ble_eq_true rfl) (by decide) (tm_offer (form := 13) (cut := (a) + (2)) (cut2 := 0) (dot := false) (n := tb_w T (0) ((k) + (1)) ((a) + (2)) (b)) ha hs (by omega)) (fun r h1 hq => ?_)
            obtain ⟨rfl, F1, ha, hf', hs, hF'⟩ := hq
            have hf := hf.tr hf'
            have hF := hF.tr hF'
            have hx := cx_F hF hx0
            have hw := hx.1
            have ht := hx.2.2.2.1
            exact K60  _ (by rw [if_pos ⟨c8, by omega⟩, if_pos ⟨c23, c33⟩] at hS; exact hS) _ _ ha hf hF hs
  exact K0 S hSf F h ha hf0 hF0 hs
set_option maxRecDepth 100000 in
set_option maxHeartbeats 4000000 in
theorem tm_scanPerfect {l : Launch} {D : va_G} {aa : Nat → ClassId} {b0 : Nat} {h : mm_H} {o : Nat} {F : Nat → Int32} {G : Nat → Int64} {A : Nat → Nat → Int32} {B : Nat → Nat → Int64} (ha : rm_at o F G A B h) {w : ro_w} {sg g : Nat} {T : Nat → Nat} (hx0 : cx_at F A w sg g T) {S Sf : sc_S} (hs : sc_at F S) {k a b : Nat} {dot : Bool} (hk : k < 4) (hab : a ≤ b) (hb : b ≤ 24) (hb1 : 1 ≤ b) (hSf : List.foldl sc_step S (sp_per w T k a b dot) = Sf) : mm_V (zz_K l D aa b0) 2 yX12_scanPerfect cX12_scanPerfect 8 none 0 [(0, .ref (o)), (1, .int (nI (k))), (2, .int (nI (a))), (3, .int (nI (b))), (4, .int (nI (Bool.toNat (dot))))] [] h 0 0 (fun r h' => r = none ∧ ∃ F' : Nat → Int32, rm_at o F' G A B h' ∧ rm_fr o h h' ∧ sc_at F' Sf ∧ sc_F F F') := by
  have hf0 : rm_fr o h h := rm_fr.rf
  have hF0 : sc_F F F := sc_F.rf
  have lp11 : ∀ (n j : Nat), (b + 1) - j ≤ n → a ≤ j ∧ j ≤ (b + 1) → ∀ (S : sc_S), List.foldl sc_step S ((sp_rg j b).map (sp_11 T k a b dot)) = Sf → ∀ (F1 : Nat → Int32) (h1 : mm_H), rm_at o F1 G A B h1 → rm_fr o h h1 → sc_F F F1 → sc_at F1 S → mm_V (zz_K l D aa b0) 2 yX12_scanPerfect cX12_scanPerfect 8 none 301 [(0, .ref (o)), (1, .int (nI (k))), (2, .int (nI (a))), (3, .int (nI (b))), (4, .int (nI (Bool.toNat (dot)))), (7, .int (nI (j + 1)))] [] h1 0 0 (fun r h' => r = none ∧ ∃ F' : Nat → Int32, rm_at o F' G A B h' ∧ rm_fr o h h' ∧ sc_at F' Sf ∧ sc_F F F') := by
    intro n
    induction n with
    | zero =>
      intro j hnlp11 hjlp11 S hS F1 h1 ha hf hF hs
      have hx := cx_F hF hx0
      have hw := hx.1
      have ht := hx.2.2.2.1
      refine mm_iload dX12_scanPerfect_301 5 rfl ?_
      refine mm_iload_n dX12_scanPerfect_303 rfl 3 rfl ?_
      refine mn_icmp_ge (tgt := 349) dX12_scanPerfect_304 (by decide) (by omega) (by omega) (fun c304 => ?_) (fun c304 => ?_)
      · rw [sp_rg_0 (a := j) (by omega)] at hS
        exact mm_vret dX12_scanPerfect_349 rfl (⟨rfl, _, ha, hf, by rw [← hS]; exact hs, hF⟩)
      · omega
    | succ n ihlp11 =>
      intro j hnlp11 hjlp11 S hS F1 h1 ha hf hF hs
      have hx := cx_F hF hx0
      have hw := hx.1
      have ht := hx.2.2.2.1
      refine mm_iload dX12_scanPerfect_301 5 rfl ?_
      refine mm_iload_n dX12_scanPerfect_303 rfl 3 rfl ?_
      refine mn_icmp_ge (tgt := 349) dX12_scanPerfect_304 (by decide) (by omega) (by omega) (fun c304 => ?_) (fun c304 => ?_)
      · rw [sp_rg_0 (a := j) (by omega)] at hS
        exact mm_vret dX12_scanPerfect_349 rfl (⟨rfl, _, ha, hf, by rw [← hS]; exact hs, hF⟩)
      · rw [sp_rg_s (a := j) (by omega)] at hS
        refine mm_aload_n dX12_scanPerfect_307 rfl 0 rfl ?_
        refine mm_bipush (v := nI 11) dX12_scanPerfect_308 (by decide) ?_
        refine mm_iload dX12_scanPerfect_310 5 rfl ?_
        refine mm_iconst (v := nI 0) dX12_scanPerfect_312 (by decide) ?_
        refine mm_iload dX12_scanPerfect_313 4 rfl ?_
        refine mm_aload_n dX12_scanPerfect_315 rfl 0 rfl ?_
        refine mm_iconst (v := nI 1) dX12_scanPerfect_316 (by decide) ?_
        refine mm_iload_n dX12_scanPerfect_317 rfl 1 rfl ?_
        refine mm_iconst (v := nI 1) dX12_scanPerfect_318 (by decide) ?_
        refine mn_iadd dX12_scanPerfect_319 ?_
        refine mm_iload_n dX12_scanPerfect_320 rfl 2 rfl ?_
        refine mm_iload dX12_scanPerfect_321 5 rfl ?_
        refine rm_callVr (As := [.int (nI (1)), .int (nI ((k) + (1))), .int (nI (a)), .int (nI (j + 1))]) (rest := [.int (nI (Bool.toNat (dot))), .int (nI (0)), .int (nI (j + 1)), .int (nI (11)), .ref (o)]) (d2 := 0) dX12_scanPerfect_323 ha zc_waysOf zc_waysOf_s rfl rfl rfl (Nat.le_of_ble_eq_true rfl) (Nat.le_of_ble_eq_true rfl) (by decide) (tm_waysOf ha ht (by omega) (by omega) (by omega) (by omega)) ?_
        have wb323 : tb_w T (1) ((k) + (1)) (a) (j + 1) ≤ 3000 := tb_le ht (by omega) (by omega)
        refine mn_i2l dX12_scanPerfect_326 (by omega) ?_
        refine mm_aload_n dX12_scanPerfect_327 rfl 0 rfl ?_
        refine mm_iconst (v := nI 0) dX12_scanPerfect_328 (by decide) ?_
        refine mm_iload_n dX12_scanPerfect_329 rfl 1 rfl ?_
        refine mm_iconst (v := nI 1) dX12_scanPerfect_330 (by decide) ?_
        refine mn_iadd dX12_scanPerfect_331 ?_
        refine mm_iload dX12_scanPerfect_332 5 rfl ?_
        refine mm_iload_n dX12_scanPerfect_334 rfl 3 rfl ?_
        refine rm_callVr (As := [.int (nI (0)), .int (nI ((k) + (1))), .int (nI (j + 1)), .int (nI (b))]) (rest := [.long (lN (tb_w T (1) ((k) + (1)) (a) (j + 1))), .int (nI (Bool.toNat (dot))), .int (nI (0)), .int (nI (j + 1)), .int (nI (11)), .ref (o)]) (d2 := 0) dX12_scanPerfect_335 ha zc_waysOf zc_waysOf_s rfl rfl rfl (Nat.le_of_ble_eq_true rfl) (Nat.le_of_ble_eq_true rfl) (by decide) (tm_waysOf ha ht (by omega) (by omega) (by omega) (by omega)) ?_
        have wb335 : tb_w T (0) ((k) + (1)) (j + 1) (b) ≤ 3000 := tb_le ht (by omega) (by omega)
        refine mn_i2l dX12_scanPerfect_338 (by omega) ?_
        refine mn_lmul dX12_scanPerfect_339 ?_
        have nb := Nat.mul_le_mul wb323 wb335
        refine rm_callV (As := [.int (nI (11)), .int (nI (j + 1)), .int (nI (0)), .int (nI (Bool.toNat (dot))), .long (lN ((tb_w T (1) ((k) + (1)) (a) (j + 1)) * (tb_w T (0) ((k) + (1)) (j + 1) (b))))]) (rest := []) (d2 := 1) dX12_scanPerfect_340 ha zc_offer zc_offer_s rfl rfl rfl (Nat.le_of_ble_eq_true rfl) (Nat.le_of_ble_eq_true rfl) (by decide) (tm_offer (form := 11) (cut := j + 1) (cut2 := 0) (dot := dot) (n := (tb_w T (1) ((k) + (1)) (a) (j + 1)) * (tb_w T (0) ((k) + (1)) (j + 1) (b))) ha hs (by omega)) (fun r h1 hq => ?_)
        obtain ⟨rfl, F1, ha, hf', hs, hF'⟩ := hq
        have hf := hf.tr hf'
        have hF := hF.tr hF'
        have hx := cx_F hF hx0
        have hw := hx.1
        have ht := hx.2.2.2.1
        refine mn_iinc (m := 1) (L' := [(7, .int (nI (j + 1 + 1))), (0, .ref (o)), (1, .int (nI (k))), (2, .int (nI (a))), (3, .int (nI (b))), (4, .int (nI (Bool.toNat (dot))))]) dX12_scanPerfect_343 (by decide) 5 rfl (by decide) rfl ?_
        refine mm_goto (tgt := 301) dX12_scanPerfect_346 (by decide) ?_
        refine mn_sub [1, 2, 3, 4, 5, 0] rfl ?_
        exact ihlp11 (j + 1) (by omega) (by omega) _ (by exact hS) _ _ ha hf hF hs
  have lp10 : ∀ (n j : Nat), (b + 1) - j ≤ n → a ≤ j ∧ j ≤ (b + 1) → ∀ (S : sc_S), List.foldl sc_step S ((sp_rg j b).map (sp_10 T k a b dot) ++ (sp_rg a b).map (sp_11 T k a b dot)) = Sf → ∀ (F1 : Nat → Int32) (h1 : mm_H), rm_at o F1 G A B h1 → rm_fr o h h1 → sc_F F F1 → sc_at F1 S → mm_V (zz_K l D aa b0) 2 yX12_scanPerfect cX12_scanPerfect 8 none 248 [(0, .ref (o)), (1, .int (nI (k))), (2, .int (nI (a))), (3, .int (nI (b))), (4, .int (nI (Bool.toNat (dot)))), (7, .int (nI (j + 1)))] [] h1 0 0 (fun r h' => r = none ∧ ∃ F' : Nat → Int32, rm_at o F' G A B h' ∧ rm_fr o h h' ∧ sc_at F' Sf ∧ sc_F F F') := by
    intro n
    induction n with
    | zero =>
      intro j hnlp10 hjlp10 S hS F1 h1 ha hf hF hs
      have hx := cx_F hF hx0
      have hw := hx.1
      have ht := hx.2.2.2.1
      refine mm_iload dX12_scanPerfect_248 5 rfl ?_
      refine mm_iload_n dX12_scanPerfect_250 rfl 3 rfl ?_
      refine mn_icmp_ge (tgt := 296) dX12_scanPerfect_251 (by decide) (by omega) (by omega) (fun c251 => ?_) (fun c251 => ?_)
      · rw [sp_rg_0 (a := j) (by omega)] at hS
        refine mm_iload_n dX12_scanPerfect_296 rfl 2 rfl ?_
        refine mm_iconst (v := nI 1) dX12_scanPerfect_297 (by decide) ?_
        refine mn_iadd dX12_scanPerfect_298 ?_
        refine mm_istore (L' := [(7, .int (nI ((a) + (1)))), (0, .ref (o)), (1, .int (nI (k))), (2, .int (nI (a))), (3, .int (nI (b))), (4, .int (nI (Bool.toNat (dot))))]) dX12_scanPerfect_299 (by decide) rfl ?_
        refine mn_sub [1, 2, 3, 4, 5, 0] rfl ?_
        exact lp11 (b + 1) a (by omega) (by omega) _ (by exact hS) _ _ ha hf hF hs
      · omega
    | succ n ihlp10 =>
      intro j hnlp10 hjlp10 S hS F1 h1 ha hf hF hs
      have hx := cx_F hF hx0
      have hw := hx.1
      have ht := hx.2.2.2.1
      refine mm_iload dX12_scanPerfect_248 5 rfl ?_
      refine mm_iload_n dX12_scanPerfect_250 rfl 3 rfl ?_
      refine mn_icmp_ge (tgt := 296) dX12_scanPerfect_251 (by decide) (by omega) (by omega) (fun c251 => ?_) (fun c251 => ?_)
      · rw [sp_rg_0 (a := j) (by omega)] at hS
        refine mm_iload_n dX12_scanPerfect_296 rfl 2 rfl ?_
        refine mm_iconst (v := nI 1) dX12_scanPerfect_297 (by decide) ?_
        refine mn_iadd dX12_scanPerfect_298 ?_
        refine mm_istore (L' := [(7, .int (nI ((a) + (1)))), (0, .ref (o)), (1, .int (nI (k))), (2, .int (nI (a))), (3, .int (nI (b))), (4, .int (nI (Bool.toNat (dot))))]) dX12_scanPerfect_299 (by decide) rfl ?_
        refine mn_sub [1, 2, 3, 4, 5, 0] rfl ?_
        exact lp11 (b + 1) a (by omega) (by omega) _ (by exact hS) _ _ ha hf hF hs
      · rw [sp_rg_s (a := j) (by omega)] at hS
        refine mm_aload_n dX12_scanPerfect_254 rfl 0 rfl ?_
        refine mm_bipush (v := nI 10) dX12_scanPerfect_255 (by decide) ?_
        refine mm_iload dX12_scanPerfect_257 5 rfl ?_
        refine mm_iconst (v := nI 0) dX12_scanPerfect_259 (by decide) ?_
        refine mm_iload dX12_scanPerfect_260 4 rfl ?_
        refine mm_aload_n dX12_scanPerfect_262 rfl 0 rfl ?_
        refine mm_iconst (v := nI 0) dX12_scanPerfect_263 (by decide) ?_
        refine mm_iload_n dX12_scanPerfect_264 rfl 1 rfl ?_
        refine mm_iconst (v := nI 1) dX12_scanPerfect_265 (by decide) ?_
        refine mn_iadd dX12_scanPerfect_266 ?_
        refine mm_iload_n dX12_scanPerfect_267 rfl 2 rfl ?_
        refine mm_iload dX12_scanPerfect_268 5 rfl ?_
        refine rm_callVr (As := [.int (nI (0)), .int (nI ((k) + (1))), .int (nI (a)), .int (nI (j + 1))]) (rest := [.int (nI (Bool.toNat (dot))), .int (nI (0)), .int (nI (j + 1)), .int (nI (10)), .ref (o)]) (d2 := 0) dX12_scanPerfect_270 ha zc_waysOf zc_waysOf_s rfl rfl rfl (Nat.le_of_ble_eq_true rfl) (Nat.le_of_ble_eq_true rfl) (by decide) (tm_waysOf ha ht (by omega) (by omega) (by omega) (by omega)) ?_
        have wb270 : tb_w T (0) ((k) + (1)) (a) (j + 1) ≤ 3000 := tb_le ht (by omega) (by omega)
        refine mn_i2l dX12_scanPerfect_273 (by omega) ?_
        refine mm_aload_n dX12_scanPerfect_274 rfl 0 rfl ?_
        refine mm_iconst (v := nI 1) dX12_scanPerfect_275 (by decide) ?_
        refine mm_iload_n dX12_scanPerfect_276 rfl 1 rfl ?_
        refine mm_iconst (v := nI 1) dX12_scanPerfect_277 (by decide) ?_
        refine mn_iadd dX12_scanPerfect_278 ?_
        refine mm_iload dX12_scanPerfect_279 5 rfl ?_
        refine mm_iload_n dX12_scanPerfect_281 rfl 3 rfl ?_
        refine rm_callVr (As := [.int (nI (1)), .int (nI ((k) + (1))), .int (nI (j + 1)), .int (nI (b))]) (rest := [.long (lN (tb_w T (0) ((k) + (1)) (a) (j + 1))), .int (nI (Bool.toNat (dot))), .int (nI (0)), .int (nI (j + 1)), .int (nI (10)), .ref (o)]) (d2 := 0) dX12_scanPerfect_282 ha zc_waysOf zc_waysOf_s rfl rfl rfl (Nat.le_of_ble_eq_true rfl) (Nat.le_of_ble_eq_true rfl) (by decide) (tm_waysOf ha ht (by omega) (by omega) (by omega) (by omega)) ?_
        have wb282 : tb_w T (1) ((k) + (1)) (j + 1) (b) ≤ 3000 := tb_le ht (by omega) (by omega)
        refine mn_i2l dX12_scanPerfect_285 (by omega) ?_
        refine mn_lmul dX12_scanPerfect_286 ?_
        have nb := Nat.mul_le_mul wb270 wb282
        refine rm_callV (As := [.int (nI (10)), .int (nI (j + 1)), .int (nI (0)), .int (nI (Bool.toNat (dot))), .long (lN ((tb_w T (0) ((k) + (1)) (a) (j + 1)) * (tb_w T (1) ((k) + (1)) (j + 1) (b))))]) (rest := []) (d2 := 1) dX12_scanPerfect_287 ha zc_offer zc_offer_s rfl rfl rfl (Nat.le_of_ble_eq_true rfl) (Nat.le_of_ble_eq_true rfl) (by decide) (tm_offer (form := 10) (cut := j + 1) (cut2 := 0) (dot := dot) (n := (tb_w T (0) ((k) + (1)) (a) (j + 1)) * (tb_w T (1) ((k) + (1)) (j + 1) (b))) ha hs (by omega)) (fun r h1 hq => ?_)
        obtain ⟨rfl, F1, ha, hf', hs, hF'⟩ := hq
        have hf := hf.tr hf'
        have hF := hF.tr hF'
        have hx := cx_F hF hx0
        have hw := hx.1
        have ht := hx.2.2.2.1
        refine mn_iinc (m := 1) (L' := [(7, .int (nI (j + 1 + 1))), (0, .ref (o)), (1, .int (nI (k))), (2, .int (nI (a))), (3, .int (nI (b))), (4, .int (nI (Bool.toNat (dot))))]) dX12_scanPerfect_290 (by decide) 5 rfl (by decide) rfl ?_
        refine mm_goto (tgt := 248) dX12_scanPerfect_293 (by decide) ?_
        refine mn_sub [1, 2, 3, 4, 5, 0] rfl ?_
        exact ihlp10 (j + 1) (by omega) (by omega) _ (by exact hS) _ _ ha hf hF hs
  have K243 : ∀ (S : sc_S), List.foldl sc_step S ((sp_rg a b).map (sp_10 T k a b dot) ++ (sp_rg a b).map (sp_11 T k a b dot)) = Sf → ∀ (F1 : Nat → Int32) (h1 : mm_H), rm_at o F1 G A B h1 → rm_fr o h h1 → sc_F F F1 → sc_at F1 S → mm_V (zz_K l D aa b0) 2 yX12_scanPerfect cX12_scanPerfect 8 none 243 [(0, .ref (o)), (1, .int (nI (k))), (2, .int (nI (a))), (3, .int (nI (b))), (4, .int (nI (Bool.toNat (dot))))] [] h1 0 0 (fun r h' => r = none ∧ ∃ F' : Nat → Int32, rm_at o F' G A B h' ∧ rm_fr o h h' ∧ sc_at F' Sf ∧ sc_F F F') := by
    intro S hS F1 h1 ha hf hF hs
    have hx := cx_F hF hx0
    have hw := hx.1
    have ht := hx.2.2.2.1
    refine mm_iload_n dX12_scanPerfect_243 rfl 2 rfl ?_
    refine mm_iconst (v := nI 1) dX12_scanPerfect_244 (by decide) ?_
    refine mn_iadd dX12_scanPerfect_245 ?_
    refine mm_istore (L' := [(7, .int (nI ((a) + (1)))), (0, .ref (o)), (1, .int (nI (k))), (2, .int (nI (a))), (3, .int (nI (b))), (4, .int (nI (Bool.toNat (dot))))]) dX12_scanPerfect_246 (by decide) rfl ?_
    refine mn_sub [1, 2, 3, 4, 5, 0] rfl ?_
    exact lp10 (b + 1) a (by omega) (by omega) _ (by exact hS) _ _ ha hf hF hs
  have K198 : ∀ (S : sc_S), List.foldl sc_step S (sp_p9 w T k a b dot ++ ((sp_rg a b).map (sp_10 T k a b dot) ++ (sp_rg a b).map (sp_11 T k a b dot))) = Sf → ∀ (F1 : Nat → Int32) (h1 : mm_H), rm_at o F1 G A B h1 → rm_fr o h h1 → sc_F F F1 → sc_at F1 S → mm_V (zz_K l D aa b0) 2 yX12_scanPerfect cX12_scanPerfect 8 none 198 [(0, .ref (o)), (1, .int (nI (k))), (2, .int (nI (a))), (3, .int (nI (b))), (4, .int (nI (Bool.toNat (dot)))), (5, .int (nI (b - 1))), (6, .int (Int32.ofInt (ro_next w (b - 1))))] [] h1 0 0 (fun r h' => r = none ∧ ∃ F' : Nat → Int32, rm_at o F' G A B h' ∧ rm_fr o h h' ∧ sc_at F' Sf ∧ sc_F F F') := by
    intro S hS F1 h1 ha hf hF hs
    have hx := cx_F hF hx0
    have hw := hx.1
    have ht := hx.2.2.2.1
    have zb := ro_next_b hw (b - 1)
    unfold sp_p9 at hS
    refine mm_iload dX12_scanPerfect_198 5 rfl ?_
    refine mm_iload_n dX12_scanPerfect_200 rfl 2 rfl ?_
    refine mn_icmp_le (tgt := 243) dX12_scanPerfect_201 (by decide) (by omega) (by omega) (fun c201 => ?_) (fun c201 => ?_)
    · refine mn_sub [0, 1, 2, 3, 4] rfl ?_
      exact K243  _ (by rw [if_neg (by rintro ⟨z1, z2, z3⟩; first | omega | (exact z3 ((z_eq (by omega) (by omega) (by omega)).mp c217)) | simp_all)] at hS; exact hS) _ _ ha hf hF hs
    · refine mm_aload_n dX12_scanPerfect_204 rfl 0 rfl ?_
      refine mm_iload dX12_scanPerfect_205 5 rfl ?_
      refine mm_iload_n dX12_scanPerfect_207 rfl 1 rfl ?_
      refine rm_callVr (As := [.int (nI (b - 1)), .int (nI (k))]) (rest := []) (d2 := 0) dX12_scanPerfect_208 ha zc_isPlain zc_isPlain_s rfl rfl rfl (Nat.le_of_ble_eq_true rfl) (Nat.le_of_ble_eq_true rfl) (by decide) (tm_isPlain ha hw (by omega) (by omega)) ?_
      refine mn_ifB_eq (tgt := 243) dX12_scanPerfect_211 (by decide) (fun c211 => ?_) (fun c211 => ?_)
      · refine mn_sub [0, 1, 2, 3, 4] rfl ?_
        exact K243  _ (by rw [if_neg (by rintro ⟨z1, z2, z3⟩; first | omega | (exact z3 ((z_eq (by omega) (by omega) (by omega)).mp c217)) | simp_all)] at hS; exact hS) _ _ ha hf hF hs
      · refine mm_iload dX12_scanPerfect_214 6 rfl ?_
        refine mm_iload_n dX12_scanPerfect_216 rfl 1 rfl ?_
        refine mm_icmp_eq (tgt := 243) dX12_scanPerfect_217 (by decide) (fun c217 => ?_) (fun c217 => ?_)
        · refine mn_sub [0, 1, 2, 3, 4] rfl ?_
          exact K243  _ (by rw [if_neg (by rintro ⟨z1, z2, z3⟩; first | omega | (exact z3 ((z_eq (by omega) (by omega) (by omega)).mp c217)) | simp_all)] at hS; exact hS) _ _ ha hf hF hs
        · refine mm_aload_n dX12_scanPerfect_220 rfl 0 rfl ?_
          refine mm_bipush (v := nI 9) dX12_scanPerfect_221 (by decide) ?_
          refine mm_iload dX12_scanPerfect_223 5 rfl ?_
          refine mm_iconst (v := nI 0) dX12_scanPerfect_225 (by decide) ?_
          refine mm_iload dX12_scanPerfect_226 4 rfl ?_
          refine mm_aload_n dX12_scanPerfect_228 rfl 0 rfl ?_
          refine mm_iconst (v := nI 0) dX12_scanPerfect_229 (by decide) ?_
          refine mm_iload_n dX12_scanPerfect_230 rfl 1 rfl ?_
          refine mm_iconst (v := nI 1) dX12_scanPerfect_231 (by decide) ?_
          refine mn_iadd dX12_scanPerfect_232 ?_
          refine mm_iload_n dX12_scanPerfect_233 rfl 2 rfl ?_
          refine mm_iload dX12_scanPerfect_234 5 rfl ?_
          refine rm_callVr (As := [.int (nI (0)), .int (nI ((k) + (1))), .int (nI (a)), .int (nI (b - 1))]) (rest := [.int (nI (Bool.toNat (dot))), .int (nI (0)), .int (nI (b - 1)), .int (nI (9)), .ref (o)]) (d2 := 0) dX12_scanPerfect_236 ha zc_waysOf zc_waysOf_s rfl rfl rfl (Nat.le_of_ble_eq_true rfl) (Nat.le_of_ble_eq_true rfl) (by decide) (tm_waysOf ha ht (by omega) (by omega) (by omega) (by omega)) ?_
          have wb236 : tb_w T (0) ((k) + (1)) (a) (b - 1) ≤ 3000 := tb_le ht (by omega) (by omega)
          refine mn_i2l dX12_scanPerfect_239 (by omega) ?_
          refine rm_callV (As := [.int (nI (9)), .int (nI (b - 1)), .int (nI (0)), .int (nI (Bool.toNat (dot))), .long (lN (tb_w T (0) ((k) + (1)) (a) (b - 1)))]) (rest := []) (d2 := 1) dX12_scanPerfect_240 ha zc_offer zc_offer_s rfl rfl rfl (Nat.le_of_ble_eq_true rfl) (Nat.le_of_ble_eq_true rfl) (by decide) (tm_offer (form := 9) (cut := b - 1) (cut2 := 0) (dot := dot) (n := tb_w T (0) ((k) + (1)) (a) (b - 1)) ha hs (by omega)) (fun r h1 hq => ?_)
          obtain ⟨rfl, F1, ha, hf', hs, hF'⟩ := hq
          have hf := hf.tr hf'
          have hF := hF.tr hF'
          have hx := cx_F hF hx0
          have hw := hx.1
          have ht := hx.2.2.2.1
          refine mn_sub [0, 1, 2, 3, 4] rfl ?_
          exact K243  _ (by rw [if_pos ⟨by omega, c211, fun z => c217 ((z_eq (by omega) (by omega) (by omega)).mpr z)⟩] at hS; exact hS) _ _ ha hf hF hs
  have K133 : ∀ (S : sc_S), List.foldl sc_step S (sp_p8 w T k a b dot ++ (sp_p9 w T k a b dot ++ ((sp_rg a b).map (sp_10 T k a b dot) ++ (sp_rg a b).map (sp_11 T k a b dot)))) = Sf → ∀ (F1 : Nat → Int32) (h1 : mm_H), rm_at o F1 G A B h1 → rm_fr o h h1 → sc_F F F1 → sc_at F1 S → mm_V (zz_K l D aa b0) 2 yX12_scanPerfect cX12_scanPerfect 8 none 133 [(0, .ref (o)), (1, .int (nI (k))), (2, .int (nI (a))), (3, .int (nI (b))), (4, .int (nI (Bool.toNat (dot))))] [] h1 0 0 (fun r h' => r = none ∧ ∃ F' : Nat → Int32, rm_at o F' G A B h' ∧ rm_fr o h h' ∧ sc_at F' Sf ∧ sc_F F F') := by
    intro S hS F1 h1 ha hf hF hs
    have hx := cx_F hF hx0
    have hw := hx.1
    have ht := hx.2.2.2.1
    unfold sp_p8 at hS
    refine mm_iload_n dX12_scanPerfect_133 rfl 3 rfl ?_
    refine mm_iconst (v := nI 1) dX12_scanPerfect_134 (by decide) ?_
    refine mn_isub dX12_scanPerfect_135 (by omega) ?_
    refine mm_istore (L' := [(5, .int (nI ((b) - (1)))), (0, .ref (o)), (1, .int (nI (k))), (2, .int (nI (a))), (3, .int (nI (b))), (4, .int (nI (Bool.toNat (dot))))]) dX12_scanPerfect_136 (by decide) rfl ?_
    refine mm_aload_n dX12_scanPerfect_138 rfl 1 rfl ?_
    refine mm_iload dX12_scanPerfect_139 0 rfl ?_
    refine rm_callVr (As := [.int (nI ((b) - (1)))]) (rest := []) (d2 := 1) dX12_scanPerfect_141 ha zc_nextKind zc_nextKind_s rfl rfl rfl (Nat.le_of_ble_eq_true rfl) (Nat.le_of_ble_eq_true rfl) (by decide) (tm_nextKind ha hw (by omega)) ?_
    have zb := ro_next_b hw ((b) - (1))
    refine mm_istore (L' := [(6, .int (Int32.ofInt (ro_next w (b - 1)))), (5, .int (nI ((b) - (1)))), (0, .ref (o)), (1, .int (nI (k))), (2, .int (nI (a))), (3, .int (nI (b))), (4, .int (nI (Bool.toNat (dot))))]) dX12_scanPerfect_144 (by decide) rfl ?_
    refine mm_iload dX12_scanPerfect_146 1 rfl ?_
    refine mm_iload_n dX12_scanPerfect_148 rfl 4 rfl ?_
    refine mn_icmp_le (tgt := 198) dX12_scanPerfect_149 (by decide) (by omega) (by omega) (fun c149 => ?_) (fun c149 => ?_)
    · refine mn_sub [2, 3, 4, 5, 6, 1, 0] rfl ?_
      exact K198  _ (by rw [if_neg (by rintro ⟨z1, z2, z3, z4⟩; first | omega | (have := (z_lt0 (by omega) (by omega)).mp c166; omega) | (have := (z_gt (by omega) (by omega) (by omega)).mp c172; omega) | simp_all)] at hS; exact hS) _ _ ha hf hF hs
    · refine mm_aload_n dX12_scanPerfect_152 rfl 2 rfl ?_
      refine mm_iload dX12_scanPerfect_153 1 rfl ?_
      refine mm_iload_n dX12_scanPerfect_155 rfl 3 rfl ?_
      refine mm_iconst (v := nI 1) dX12_scanPerfect_156 (by decide) ?_
      refine mn_iadd dX12_scanPerfect_157 ?_
      refine rm_callVr (As := [.int (nI ((b) - (1))), .int (nI ((k) + (1)))]) (rest := []) (d2 := 0) dX12_scanPerfect_158 ha zc_isPlain zc_isPlain_s rfl rfl rfl (Nat.le_of_ble_eq_true rfl) (Nat.le_of_ble_eq_true rfl) (by decide) (tm_isPlain ha hw (by omega) (by omega)) ?_
      refine mn_ifB_eq (tgt := 198) dX12_scanPerfect_161 (by decide) (fun c161 => ?_) (fun c161 => ?_)
      · refine mn_sub [2, 3, 4, 5, 6, 1, 0] rfl ?_
        exact K198  _ (by rw [if_neg (by rintro ⟨z1, z2, z3, z4⟩; first | omega | (have := (z_lt0 (by omega) (by omega)).mp c166; omega) | (have := (z_gt (by omega) (by omega) (by omega)).mp c172; omega) | simp_all)] at hS; exact hS) _ _ ha hf hF hs
      · refine mm_iload dX12_scanPerfect_164 0 rfl ?_
        refine mm_if_lt (tgt := 198) dX12_scanPerfect_166 (by decide) (fun c166 => ?_) (fun c166 => ?_)
        · refine mn_sub [2, 3, 4, 5, 6, 1, 0] rfl ?_
          exact K198  _ (by rw [if_neg (by rintro ⟨z1, z2, z3, z4⟩; first | omega | (have := (z_lt0 (by omega) (by omega)).mp c166; omega) | (have := (z_gt (by omega) (by omega) (by omega)).mp c172; omega) | simp_all)] at hS; exact hS) _ _ ha hf hF hs
        · refine mm_iload dX12_scanPerfect_169 0 rfl ?_
          refine mm_iload_n dX12_scanPerfect_171 rfl 3 rfl ?_
          refine mm_icmp_gt (tgt := 198) dX12_scanPerfect_172 (by decide) (fun c172 => ?_) (fun c172 => ?_)
          · refine mn_sub [2, 3, 4, 5, 6, 1, 0] rfl ?_
            exact K198  _ (by rw [if_neg (by rintro ⟨z1, z2, z3, z4⟩; first | omega | (have := (z_lt0 (by omega) (by omega)).mp c166; omega) | (have := (z_gt (by omega) (by omega) (by omega)).mp c172; omega) | simp_all)] at hS; exact hS) _ _ ha hf hF hs
          · refine mm_aload_n dX12_scanPerfect_175 rfl 2 rfl ?_
            refine mm_bipush (v := nI 8) dX12_scanPerfect_176 (by decide) ?_
            refine mm_iload dX12_scanPerfect_178 1 rfl ?_
            refine mm_iconst (v := nI 0) dX12_scanPerfect_180 (by decide) ?_
            refine mm_iload dX12_scanPerfect_181 6 rfl ?_
            refine mm_aload_n dX12_scanPerfect_183 rfl 2 rfl ?_
            refine mm_iconst (v := nI 0) dX12_scanPerfect_184 (by decide) ?_
            refine mm_iload_n dX12_scanPerfect_185 rfl 3 rfl ?_
            refine mm_iconst (v := nI 1) dX12_scanPerfect_186 (by decide) ?_
            refine mn_iadd dX12_scanPerfect_187 ?_
            refine mm_iload_n dX12_scanPerfect_188 rfl 4 rfl ?_
            refine mm_iload dX12_scanPerfect_189 1 rfl ?_
            refine rm_callVr (As := [.int (nI (0)), .int (nI ((k) + (1))), .int (nI (a)), .int (nI ((b) - (1)))]) (rest := [.int (nI (Bool.toNat (dot))), .int (nI (0)), .int (nI ((b) - (1))), .int (nI (8)), .ref (o)]) (d2 := 0) dX12_scanPerfect_191 ha zc_waysOf zc_waysOf_s rfl rfl rfl (Nat.le_of_ble_eq_true rfl) (Nat.le_of_ble_eq_true rfl) (by decide) (tm_waysOf ha ht (by omega) (by omega) (by omega) (by omega)) ?_
            have wb191 : tb_w T (0) ((k) + (1)) (a) ((b) - (1)) ≤ 3000 := tb_le ht (by omega) (by omega)
            refine mn_i2l dX12_scanPerfect_194 (by omega) ?_
            refine rm_callV (As := [.int (nI (8)), .int (nI ((b) - (1))), .int (nI (0)), .int (nI (Bool.toNat (dot))), .long (lN (tb_w T (0) ((k) + (1)) (a) ((b) - (1))))]) (rest := []) (d2 := 1) dX12_scanPerfect_195 ha zc_offer zc_offer_s rfl rfl rfl (Nat.le_of_ble_eq_true rfl) (Nat.le_of_ble_eq_true rfl) (by decide) (tm_offer (form := 8) (cut := (b) - (1)) (cut2 := 0) (dot := dot) (n := tb_w T (0) ((k) + (1)) (a) ((b) - (1))) ha hs (by omega)) (fun r h1 hq => ?_)
            obtain ⟨rfl, F1, ha, hf', hs, hF'⟩ := hq
            have hf := hf.tr hf'
            have hF := hF.tr hF'
            have hx := cx_F hF hx0
            have hw := hx.1
            have ht := hx.2.2.2.1
            refine mn_sub [2, 3, 4, 5, 6, 1, 0] rfl ?_
            exact K198  _ (by rw [if_pos ⟨by omega, c161, by have := (not_congr (z_lt0 (by omega) (by omega))).mp c166; omega, by have := (not_congr (z_gt (by omega) (by omega) (by omega))).mp c172; omega⟩] at hS; exact hS) _ _ ha hf hF hs
  have K99 : ∀ (S : sc_S), List.foldl sc_step S (sp_p7 w T k a b dot ++ (sp_p8 w T k a b dot ++ (sp_p9 w T k a b dot ++ ((sp_rg a b).map (sp_10 T k a b dot) ++ (sp_rg a b).map (sp_11 T k a b dot))))) = Sf → ∀ (F1 : Nat → Int32) (h1 : mm_H), rm_at o F1 G A B h1 → rm_fr o h h1 → sc_F F F1 → sc_at F1 S → mm_V (zz_K l D aa b0) 2 yX12_scanPerfect cX12_scanPerfect 8 none 99 [(0, .ref (o)), (1, .int (nI (k))), (2, .int (nI (a))), (3, .int (nI (b))), (4, .int (nI (Bool.toNat (dot))))] [] h1 0 0 (fun r h' => r = none ∧ ∃ F' : Nat → Int32, rm_at o F' G A B h' ∧ rm_fr o h h' ∧ sc_at F' Sf ∧ sc_F F F') := by
    intro S hS F1 h1 ha hf hF hs
    have hx := cx_F hF hx0
    have hw := hx.1
    have ht := hx.2.2.2.1
    unfold sp_p7 at hS
    refine mm_aload_n dX12_scanPerfect_99 rfl 0 rfl ?_
    refine mm_iload_n dX12_scanPerfect_100 rfl 2 rfl ?_
    refine mm_iload_n dX12_scanPerfect_101 rfl 1 rfl ?_
    refine rm_callVr (As := [.int (nI (a)), .int (nI (k))]) (rest := []) (d2 := 0) dX12_scanPerfect_102 ha zc_isPlain zc_isPlain_s rfl rfl rfl (Nat.le_of_ble_eq_true rfl) (Nat.le_of_ble_eq_true rfl) (by decide) (tm_isPlain ha hw (by omega) (by omega)) ?_
    refine mn_ifB_eq (tgt := 133) dX12_scanPerfect_105 (by decide) (fun c105 => ?_) (fun c105 => ?_)
    · exact K133  _ (by rw [if_neg (by rw [c105]; decide)] at hS; exact hS) _ _ ha hf hF hs
    · refine mm_aload_n dX12_scanPerfect_108 rfl 0 rfl ?_
      refine mm_bipush (v := nI 7) dX12_scanPerfect_109 (by decide) ?_
      refine mm_iload_n dX12_scanPerfect_111 rfl 2 rfl ?_
      refine mm_iconst (v := nI 1) dX12_scanPerfect_112 (by decide) ?_
      refine mn_iadd dX12_scanPerfect_113 ?_
      refine mm_iconst (v := nI 0) dX12_scanPerfect_114 (by decide) ?_
      refine mm_iload dX12_scanPerfect_115 4 rfl ?_
      refine mm_aload_n dX12_scanPerfect_117 rfl 0 rfl ?_
      refine mm_iconst (v := nI 0) dX12_scanPerfect_118 (by decide) ?_
      refine mm_iload_n dX12_scanPerfect_119 rfl 1 rfl ?_
      refine mm_iconst (v := nI 1) dX12_scanPerfect_120 (by decide) ?_
      refine mn_iadd dX12_scanPerfect_121 ?_
      refine mm_iload_n dX12_scanPerfect_122 rfl 2 rfl ?_
      refine mm_iconst (v := nI 1) dX12_scanPerfect_123 (by decide) ?_
      refine mn_iadd dX12_scanPerfect_124 ?_
      refine mm_iload_n dX12_scanPerfect_125 rfl 3 rfl ?_
      refine rm_callVr (As := [.int (nI (0)), .int (nI ((k) + (1))), .int (nI ((a) + (1))), .int (nI (b))]) (rest := [.int (nI (Bool.toNat (dot))), .int (nI (0)), .int (nI ((a) + (1))), .int (nI (7)), .ref (o)]) (d2 := 0) dX12_scanPerfect_126 ha zc_waysOf zc_waysOf_s rfl rfl rfl (Nat.le_of_ble_eq_true rfl) (Nat.le_of_ble_eq_true rfl) (by decide) (tm_waysOf ha ht (by omega) (by omega) (by omega) (by omega)) ?_
      have wb126 : tb_w T (0) ((k) + (1)) ((a) + (1)) (b) ≤ 3000 := tb_le ht (by omega) (by omega)
      refine mn_i2l dX12_scanPerfect_129 (by omega) ?_
      refine rm_callV (As := [.int (nI (7)), .int (nI ((a) + (1))), .int (nI (0)), .int (nI (Bool.toNat (dot))), .long (lN (tb_w T (0) ((k) + (1)) ((a) + (1)) (b)))]) (rest := []) (d2 := 1) dX12_scanPerfect_130 ha zc_offer zc_offer_s rfl rfl rfl (Nat.le_of_ble_eq_true rfl) (Nat.le_of_ble_eq_true rfl) (by decide) (tm_offer (form := 7) (cut := (a) + (1)) (cut2 := 0) (dot := dot) (n := tb_w T (0) ((k) + (1)) ((a) + (1)) (b)) ha hs (by omega)) (fun r h1 hq => ?_)
      obtain ⟨rfl, F1, ha, hf', hs, hF'⟩ := hq
      have hf := hf.tr hf'
      have hF := hF.tr hF'
      have hx := cx_F hF hx0
      have hw := hx.1
      have ht := hx.2.2.2.1
      exact K133  _ (by rw [if_pos c105] at hS; exact hS) _ _ ha hf hF hs
  have lp6 : ∀ (n j : Nat), (b + 1) - j ≤ n → a ≤ j ∧ j ≤ (b + 1) → ∀ (S : sc_S), List.foldl sc_step S ((sp_rg j b).flatMap (fun m => if 0 < tb_w T 0 (k + 1) a m then (sp_rg m b).map (sp_6 T k a b dot m) else []) ++ (sp_p7 w T k a b dot ++ (sp_p8 w T k a b dot ++ (sp_p9 w T k a b dot ++ ((sp_rg a b).map (sp_10 T k a b dot) ++ (sp_rg a b).map (sp_11 T k a b dot)))))) = Sf → ∀ (F1 : Nat → Int32) (h1 : mm_H), rm_at o F1 G A B h1 → rm_fr o h h1 → sc_F F F1 → sc_at F1 S → mm_V (zz_K l D aa b0) 2 yX12_scanPerfect cX12_scanPerfect 8 none 5 [(0, .ref (o)), (1, .int (nI (k))), (2, .int (nI (a))), (3, .int (nI (b))), (4, .int (nI (Bool.toNat (dot)))), (5, .int (nI (j + 1)))] [] h1 0 0 (fun r h' => r = none ∧ ∃ F' : Nat → Int32, rm_at o F' G A B h' ∧ rm_fr o h h' ∧ sc_at F' Sf ∧ sc_F F F') := by
    intro n
    induction n with
    | zero =>
      intro j hnlp6 hjlp6 S hS F1 h1 ha hf hF hs
      have hx := cx_F hF hx0
      have hw := hx.1
      have ht := hx.2.2.2.1
      refine mm_iload dX12_scanPerfect_5 5 rfl ?_
      refine mm_iload_n dX12_scanPerfect_7 rfl 3 rfl ?_
      refine mn_icmp_ge (tgt := 99) dX12_scanPerfect_8 (by decide) (by omega) (by omega) (fun c8 => ?_) (fun c8 => ?_)
      · rw [sp_rg_0 (a := j) (by omega)] at hS
        refine mn_sub [0, 1, 2, 3, 4] rfl ?_
        exact K99  _ (by exact hS) _ _ ha hf hF hs
      · omega
    | succ n ihlp6 =>
      intro j hnlp6 hjlp6 S hS F1 h1 ha hf hF hs
      have hx := cx_F hF hx0
      have hw := hx.1
      have ht := hx.2.2.2.1
      refine mm_iload dX12_scanPerfect_5 5 rfl ?_
      refine mm_iload_n dX12_scanPerfect_7 rfl 3 rfl ?_
      refine mn_icmp_ge (tgt := 99) dX12_scanPerfect_8 (by decide) (by omega) (by omega) (fun c8 => ?_) (fun c8 => ?_)
      · rw [sp_rg_0 (a := j) (by omega)] at hS
        refine mn_sub [0, 1, 2, 3, 4] rfl ?_
        exact K99  _ (by exact hS) _ _ ha hf hF hs
      · rw [sp_rg_s (a := j) (by omega)] at hS
        rw [List.flatMap_cons, List.append_assoc] at hS
        refine mm_aload_n dX12_scanPerfect_11 rfl 0 rfl ?_
        refine mm_iconst (v := nI 0) dX12_scanPerfect_12 (by decide) ?_
        refine mm_iload_n dX12_scanPerfect_13 rfl 1 rfl ?_
        refine mm_iconst (v := nI 1) dX12_scanPerfect_14 (by decide) ?_
        refine mn_iadd dX12_scanPerfect_15 ?_
        refine mm_iload_n dX12_scanPerfect_16 rfl 2 rfl ?_
        refine mm_iload dX12_scanPerfect_17 5 rfl ?_
        refine rm_callVr (As := [.int (nI (0)), .int (nI ((k) + (1))), .int (nI (a)), .int (nI (j + 1))]) (rest := []) (d2 := 0) dX12_scanPerfect_19 ha zc_waysOf zc_waysOf_s rfl rfl rfl (Nat.le_of_ble_eq_true rfl) (Nat.le_of_ble_eq_true rfl) (by decide) (tm_waysOf ha ht (by omega) (by omega) (by omega) (by omega)) ?_
        have wb19 : tb_w T (0) ((k) + (1)) (a) (j + 1) ≤ 3000 := tb_le ht (by omega) (by omega)
        refine mm_istore (L' := [(6, .int (nI (tb_w T (0) ((k) + (1)) (a) (j + 1)))), (0, .ref (o)), (1, .int (nI (k))), (2, .int (nI (a))), (3, .int (nI (b))), (4, .int (nI (Bool.toNat (dot)))), (5, .int (nI (j + 1)))]) dX12_scanPerfect_22 (by decide) rfl ?_
        refine mm_iload dX12_scanPerfect_24 6 rfl ?_
        refine mm_iconst (v := nI 1) dX12_scanPerfect_26 (by decide) ?_
        refine mn_iadd dX12_scanPerfect_27 ?_
        refine mm_istore (L' := [(7, .int (nI ((j + 1) + (1)))), (6, .int (nI (tb_w T (0) ((k) + (1)) (a) (j + 1)))), (0, .ref (o)), (1, .int (nI (k))), (2, .int (nI (a))), (3, .int (nI (b))), (4, .int (nI (Bool.toNat (dot)))), (5, .int (nI (j + 1)))]) dX12_scanPerfect_28 (by decide) rfl ?_
        by_cases hfirst : 0 < tb_w T (0) ((k) + (1)) (a) (j + 1)
        · rw [if_pos hfirst] at hS
          have inn : ∀ (f i : Nat), (b + 1) - i ≤ f → j + 1 ≤ i ∧ i ≤ b + 1 → ∀ (S : sc_S), List.foldl sc_step S ((sp_rg i b).map (sp_6 T k a b dot (j + 1)) ++ ((sp_rg (j + 1) b).flatMap (fun m => if 0 < tb_w T 0 (k + 1) a m then (sp_rg m b).map (sp_6 T k a b dot m) else []) ++ (sp_p7 w T k a b dot ++ (sp_p8 w T k a b dot ++ (sp_p9 w T k a b dot ++ ((sp_rg a b).map (sp_10 T k a b dot) ++ (sp_rg a b).map (sp_11 T k a b dot))))))) = Sf → ∀ (F1 : Nat → Int32) (h1 : mm_H), rm_at o F1 G A B h1 → rm_fr o h h1 → sc_F F F1 → sc_at F1 S → mm_V (zz_K l D aa b0) 2 yX12_scanPerfect cX12_scanPerfect 8 none 30 [(0, .ref (o)), (1, .int (nI (k))), (2, .int (nI (a))), (3, .int (nI (b))), (4, .int (nI (Bool.toNat (dot)))), (5, .int (nI (j + 1))), (6, .int (nI (tb_w T (0) ((k) + (1)) (a) (j + 1)))), (7, .int (nI (i + 1)))] [] h1 0 0 (fun r h' => r = none ∧ ∃ F' : Nat → Int32, rm_at o F' G A B h' ∧ rm_fr o h h' ∧ sc_at F' Sf ∧ sc_F F F') := by
            intro f
            induction f with
            | zero =>
              intro i hn2 hi S hS F1 h1 ha hf hF hs
              have hx := cx_F hF hx0
              have hw := hx.1
              have ht := hx.2.2.2.1
              refine mm_iload dX12_scanPerfect_30 7 rfl ?_
              refine mm_iload_n dX12_scanPerfect_32 rfl 3 rfl ?_
              refine mn_icmp_ge (tgt := 93) dX12_scanPerfect_33 (by decide) (by omega) (by omega) (fun c33 => ?_) (fun c33 => ?_)
              · rw [sp_rg_0 (a := i) (by omega)] at hS
                refine mn_iinc (m := 1) (L' := [(5, .int (nI (j + 1 + 1))), (0, .ref (o)), (1, .int (nI (k))), (2, .int (nI (a))), (3, .int (nI (b))), (4, .int (nI (Bool.toNat (dot)))), (6, .int (nI (tb_w T (0) ((k) + (1)) (a) (j + 1)))), (7, .int (nI (i + 1)))]) dX12_scanPerfect_93 (by decide) 5 rfl (by decide) rfl ?_
                refine mm_goto (tgt := 5) dX12_scanPerfect_96 (by decide) ?_
                refine mn_sub [1, 2, 3, 4, 5, 0] rfl ?_
                exact ihlp6 (j + 1) (by omega) (by omega) _ (by exact hS) _ _ ha hf hF hs
              · omega
            | succ f ihf =>
              intro i hn2 hi S hS F1 h1 ha hf hF hs
              have hx := cx_F hF hx0
              have hw := hx.1
              have ht := hx.2.2.2.1
              refine mm_iload dX12_scanPerfect_30 7 rfl ?_
              refine mm_iload_n dX12_scanPerfect_32 rfl 3 rfl ?_
              refine mn_icmp_ge (tgt := 93) dX12_scanPerfect_33 (by decide) (by omega) (by omega) (fun c33 => ?_) (fun c33 => ?_)
              · rw [sp_rg_0 (a := i) (by omega)] at hS
                refine mn_iinc (m := 1) (L' := [(5, .int (nI (j + 1 + 1))), (0, .ref (o)), (1, .int (nI (k))), (2, .int (nI (a))), (3, .int (nI (b))), (4, .int (nI (Bool.toNat (dot)))), (6, .int (nI (tb_w T (0) ((k) + (1)) (a) (j + 1)))), (7, .int (nI (i + 1)))]) dX12_scanPerfect_93 (by decide) 5 rfl (by decide) rfl ?_
                refine mm_goto (tgt := 5) dX12_scanPerfect_96 (by decide) ?_
                refine mn_sub [1, 2, 3, 4, 5, 0] rfl ?_
                exact ihlp6 (j + 1) (by omega) (by omega) _ (by exact hS) _ _ ha hf hF hs
              · rw [sp_rg_s (a := i) (by omega)] at hS
                refine mm_iload dX12_scanPerfect_36 6 rfl ?_
                refine mn_if_le (tgt := 93) dX12_scanPerfect_38 (by decide) (by omega) (fun c38 => ?_) (fun c38 => ?_)
                · omega
                · refine mm_aload_n dX12_scanPerfect_41 rfl 0 rfl ?_
                  refine mm_bipush (v := nI 6) dX12_scanPerfect_42 (by decide) ?_
                  refine mm_iload dX12_scanPerfect_44 5 rfl ?_
                  refine mm_iload dX12_scanPerfect_46 7 rfl ?_
                  refine mm_iload dX12_scanPerfect_48 4 rfl ?_
                  refine mm_iload dX12_scanPerfect_50 6 rfl ?_
                  refine mn_i2l dX12_scanPerfect_52 (by first | omega | (have := Nat.mul_le_mul wb19 wb62; omega)) ?_
                  refine mm_aload_n dX12_scanPerfect_53 rfl 0 rfl ?_
                  refine mm_iconst (v := nI 0) dX12_scanPerfect_54 (by decide) ?_
                  refine mm_iload_n dX12_scanPerfect_55 rfl 1 rfl ?_
                  refine mm_iconst (v := nI 1) dX12_scanPerfect_56 (by decide) ?_
                  refine mn_iadd dX12_scanPerfect_57 ?_
                  refine mm_iload dX12_scanPerfect_58 5 rfl ?_
                  refine mm_iload dX12_scanPerfect_60 7 rfl ?_
                  refine rm_callVr (As := [.int (nI (0)), .int (nI ((k) + (1))), .int (nI (j + 1)), .int (nI (i + 1))]) (rest := [.long (lN (tb_w T (0) ((k) + (1)) (a) (j + 1))), .int (nI (Bool.toNat (dot))), .int (nI (i + 1)), .int (nI (j + 1)), .int (nI (6)), .ref (o)]) (d2 := 0) dX12_scanPerfect_62 ha zc_waysOf zc_waysOf_s rfl rfl rfl (Nat.le_of_ble_eq_true rfl) (Nat.le_of_ble_eq_true rfl) (by decide) (tm_waysOf ha ht (by omega) (by omega) (by omega) (by omega)) ?_
                  have wb62 : tb_w T (0) ((k) + (1)) (j + 1) (i + 1) ≤ 3000 := tb_le ht (by omega) (by omega)
                  refine mn_i2l dX12_scanPerfect_65 (by first | omega | (have := Nat.mul_le_mul wb19 wb62; omega)) ?_
                  refine mn_lmul dX12_scanPerfect_66 ?_
                  refine rm_callSr (As := [.long (lN ((tb_w T (0) ((k) + (1)) (a) (j + 1)) * (tb_w T (0) ((k) + (1)) (j + 1) (i + 1))))]) (rest := [.int (nI (Bool.toNat (dot))), .int (nI (i + 1)), .int (nI (j + 1)), .int (nI (6)), .ref (o)]) (d2 := 0) dX12_scanPerfect_67 zc_cap rfl rfl (Nat.le_of_ble_eq_true rfl) (Nat.le_of_ble_eq_true rfl) (by decide) (tm_cap (n := (tb_w T (0) ((k) + (1)) (a) (j + 1)) * (tb_w T (0) ((k) + (1)) (j + 1) (i + 1))) (by have := Nat.mul_le_mul wb19 wb62; omega)) ?_
                  refine mn_i2l dX12_scanPerfect_70 (by first | omega | (have := Nat.mul_le_mul wb19 wb62; omega)) ?_
                  refine mm_aload_n dX12_scanPerfect_71 rfl 0 rfl ?_
                  refine mm_iconst (v := nI 0) dX12_scanPerfect_72 (by decide) ?_
                  refine mm_iload_n dX12_scanPerfect_73 rfl 1 rfl ?_
                  refine mm_iconst (v := nI 1) dX12_scanPerfect_74 (by decide) ?_
                  refine mn_iadd dX12_scanPerfect_75 ?_
                  refine mm_iload dX12_scanPerfect_76 7 rfl ?_
                  refine mm_iload_n dX12_scanPerfect_78 rfl 3 rfl ?_
                  refine rm_callVr (As := [.int (nI (0)), .int (nI ((k) + (1))), .int (nI (i + 1)), .int (nI (b))]) (rest := [.long (lN (min ((tb_w T (0) ((k) + (1)) (a) (j + 1)) * (tb_w T (0) ((k) + (1)) (j + 1) (i + 1))) 3000)), .int (nI (Bool.toNat (dot))), .int (nI (i + 1)), .int (nI (j + 1)), .int (nI (6)), .ref (o)]) (d2 := 0) dX12_scanPerfect_79 ha zc_waysOf zc_waysOf_s rfl rfl rfl (Nat.le_of_ble_eq_true rfl) (Nat.le_of_ble_eq_true rfl) (by decide) (tm_waysOf ha ht (by omega) (by omega) (by omega) (by omega)) ?_
                  have wb79 : tb_w T (0) ((k) + (1)) (i + 1) (b) ≤ 3000 := tb_le ht (by omega) (by omega)
                  refine mn_i2l dX12_scanPerfect_82 (by first | omega | (have := Nat.mul_le_mul wb19 wb62; omega)) ?_
                  refine mn_lmul dX12_scanPerfect_83 ?_
                  have nb0 : min (tb_w T (0) ((k) + (1)) (a) (j + 1) * tb_w T (0) ((k) + (1)) (j + 1) (i + 1)) 3000 ≤ 3000 := Nat.min_le_right _ _
                  have nb := Nat.mul_le_mul nb0 wb79
                  refine rm_callV (As := [.int (nI (6)), .int (nI (j + 1)), .int (nI (i + 1)), .int (nI (Bool.toNat (dot))), .long (lN ((min ((tb_w T (0) ((k) + (1)) (a) (j + 1)) * (tb_w T (0) ((k) + (1)) (j + 1) (i + 1))) 3000) * (tb_w T (0) ((k) + (1)) (i + 1) (b))))]) (rest := []) (d2 := 1) dX12_scanPerfect_84 ha zc_offer zc_offer_s rfl rfl rfl (Nat.le_of_ble_eq_true rfl) (Nat.le_of_ble_eq_true rfl) (by decide) (tm_offer (form := 6) (cut := j + 1) (cut2 := i + 1) (dot := dot) (n := (min ((tb_w T (0) ((k) + (1)) (a) (j + 1)) * (tb_w T (0) ((k) + (1)) (j + 1) (i + 1))) 3000) * (tb_w T (0) ((k) + (1)) (i + 1) (b))) ha hs (by omega)) (fun r h1 hq => ?_)
                  obtain ⟨rfl, F1, ha, hf', hs, hF'⟩ := hq
                  have hf := hf.tr hf'
                  have hF := hF.tr hF'
                  have hx := cx_F hF hx0
                  have hw := hx.1
                  have ht := hx.2.2.2.1
                  refine mn_iinc (m := 1) (L' := [(7, .int (nI (i + 1 + 1))), (0, .ref (o)), (1, .int (nI (k))), (2, .int (nI (a))), (3, .int (nI (b))), (4, .int (nI (Bool.toNat (dot)))), (5, .int (nI (j + 1))), (6, .int (nI (tb_w T (0) ((k) + (1)) (a) (j + 1))))]) dX12_scanPerfect_87 (by decide) 7 rfl (by decide) rfl ?_
                  refine mm_goto (tgt := 30) dX12_scanPerfect_90 (by decide) ?_
                  refine mn_sub [1, 2, 3, 4, 5, 6, 7, 0] rfl ?_
                  exact ihf (i + 1) (by omega) (by omega) _ (by exact hS) _ _ ha hf hF hs
          refine mn_sub [2, 3, 4, 5, 6, 7, 1, 0] rfl ?_
          exact inn (b + 1) (j + 1) (by omega) (by omega) _ (by exact hS) _ _ ha hf hF hs
        · rw [if_neg hfirst] at hS
          refine mm_iload dX12_scanPerfect_30 0 rfl ?_
          refine mm_iload_n dX12_scanPerfect_32 rfl 5 rfl ?_
          refine mn_icmp_ge (tgt := 93) dX12_scanPerfect_33 (by decide) (by omega) (by omega) (fun c33 => ?_) (fun c33 => ?_)
          · refine mn_iinc (m := 1) (L' := [(5, .int (nI (j + 1 + 1))), (7, .int (nI ((j + 1) + (1)))), (6, .int (nI (tb_w T (0) ((k) + (1)) (a) (j + 1)))), (0, .ref (o)), (1, .int (nI (k))), (2, .int (nI (a))), (3, .int (nI (b))), (4, .int (nI (Bool.toNat (dot))))]) dX12_scanPerfect_93 (by decide) 7 rfl (by decide) rfl ?_
            refine mm_goto (tgt := 5) dX12_scanPerfect_96 (by decide) ?_
            refine mn_sub [3, 4, 5, 6, 7, 0] rfl ?_
            exact ihlp6 (j + 1) (by omega) (by omega) _ (by exact hS) _ _ ha hf hF hs
          · refine mm_iload dX12_scanPerfect_36 1 rfl ?_
            refine mn_if_le (tgt := 93) dX12_scanPerfect_38 (by decide) (by omega) (fun c38 => ?_) (fun c38 => ?_)
            · refine mn_iinc (m := 1) (L' := [(5, .int (nI (j + 1 + 1))), (7, .int (nI ((j + 1) + (1)))), (6, .int (nI (tb_w T (0) ((k) + (1)) (a) (j + 1)))), (0, .ref (o)), (1, .int (nI (k))), (2, .int (nI (a))), (3, .int (nI (b))), (4, .int (nI (Bool.toNat (dot))))]) dX12_scanPerfect_93 (by decide) 7 rfl (by decide) rfl ?_
              refine mm_goto (tgt := 5) dX12_scanPerfect_96 (by decide) ?_
              refine mn_sub [3, 4, 5, 6, 7, 0] rfl ?_
              exact ihlp6 (j + 1) (by omega) (by omega) _ (by exact hS) _ _ ha hf hF hs
            · omega
  have K0 : ∀ (S : sc_S), List.foldl sc_step S (sp_per w T k a b dot) = Sf → ∀ (F1 : Nat → Int32) (h1 : mm_H), rm_at o F1 G A B h1 → rm_fr o h h1 → sc_F F F1 → sc_at F1 S → mm_V (zz_K l D aa b0) 2 yX12_scanPerfect cX12_scanPerfect 8 none 0 [(0, .ref (o)), (1, .int (nI (k))), (2, .int (nI (a))), (3, .int (nI (b))), (4, .int (nI (Bool.toNat (dot))))] [] h1 0 0 (fun r h' => r = none ∧ ∃ F' : Nat → Int32, rm_at o F' G A B h' ∧ rm_fr o h h' ∧ sc_at F' Sf ∧ sc_F F F') := by
    intro S hS F1 h1 ha hf hF hs
    have hx := cx_F hF hx0
    have hw := hx.1
    have ht := hx.2.2.2.1
    refine mm_iload_n dX12_scanPerfect_0 rfl 2 rfl ?_
    refine mm_iconst (v := nI 1) dX12_scanPerfect_1 (by decide) ?_
    refine mn_iadd dX12_scanPerfect_2 ?_
    refine mm_istore (L' := [(5, .int (nI ((a) + (1)))), (0, .ref (o)), (1, .int (nI (k))), (2, .int (nI (a))), (3, .int (nI (b))), (4, .int (nI (Bool.toNat (dot))))]) dX12_scanPerfect_3 (by decide) rfl ?_
    refine mn_sub [1, 2, 3, 4, 5, 0] rfl ?_
    exact lp6 (b + 1) a (by omega) (by omega) _ (by exact hS) _ _ ha hf hF hs
  exact K0 S hSf F h ha hf0 hF0 hs
