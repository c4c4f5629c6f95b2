set_option maxRecDepth 100000 in
set_option maxHeartbeats 4000000 in
theorem tm_isPerfect {l : Launch} {D : va_G} {aa : Nat → ClassId} {b0 : Nat} {h : mm_H}  {sg k : Nat} (hsg : sg < 16) (hk : k < 100) : mm_V (zz_K l D aa b0) 0 yX12_isPerfect cX12_isPerfect 2 (some .boolean) 0 [(0, .int (nI (sg))), (1, .int (nI (k)))] [] h 0 0 (fun r h' => h' = h ∧ r = some (.int (nI (Bool.toNat (sp_perf sg k))))) := by
  refine mm_iload_n dX12_isPerfect_0 rfl 1 rfl ?_
  refine mm_iconst (v := nI 4) dX12_isPerfect_1 (by decide) ?_
  refine mn_icmp_ge (tgt := 18) dX12_isPerfect_2 (by decide) (by omega) (by omega) (fun c2 => ?_) (fun c2 => ?_)
  · refine mm_iconst (v := nI 0) dX12_isPerfect_18 (by decide) ?_
    exact mm_zret dX12_isPerfect_19 rfl (by decide) (⟨rfl, by rw [show sp_perf sg k = false from by unfold sp_perf; first | (simp_all; done) | (simp_all; omega)]; rfl⟩)
  · refine mm_iload_n dX12_isPerfect_5 rfl 0 rfl ?_
    refine mm_iload_n dX12_isPerfect_6 rfl 1 rfl ?_
    refine mm_ishr dX12_isPerfect_7 ?_
    refine mm_iconst (v := nI 1) dX12_isPerfect_8 (by decide) ?_
    refine mm_iand dX12_isPerfect_9 ?_
    refine mn_top (u := .int (nI (sg / 2 ^ k % 2))) (congrArg Value.int (sp_bit sg hsg k (by omega))) ?_
    have hm := Nat.mod_lt (sg / 2 ^ k) (show 0 < 2 by decide)
    refine mm_iconst (v := nI 1) dX12_isPerfect_10 (by decide) ?_
    refine mn_icmp_ne (tgt := 18) dX12_isPerfect_11 (by decide) (by omega) (by omega) (fun c11 => ?_) (fun c11 => ?_)
    · refine mm_iconst (v := nI 0) dX12_isPerfect_18 (by decide) ?_
      exact mm_zret dX12_isPerfect_19 rfl (by decide) (⟨rfl, by rw [show sp_perf sg k = false from by unfold sp_perf; first | (simp_all; done) | (simp_all; omega)]; rfl⟩)
    · refine mm_iconst (v := nI 1) dX12_isPerfect_14 (by decide) ?_
      refine mm_goto (tgt := 19) dX12_isPerfect_15 (by decide) ?_
      exact mm_zret dX12_isPerfect_19 rfl (by decide) (⟨rfl, by rw [show sp_perf sg k = true from by unfold sp_perf; first | (simp_all; done) | (simp_all; omega)]; rfl⟩)
set_option maxRecDepth 100000 in
set_option maxHeartbeats 4000000 in
theorem tm_nextKind {l : Launch} {D : va_G} {aa : Nat → ClassId} {b0 : Nat} {h : mm_H} {o : Nat} {F : Nat → Int32} {G : Nat → Int64} {A : Nat → Nat → Int32} {B : Nat → Nat → Int64} (ha : rm_at o F G A B h) {w : ro_w} (hw : ro_at F A w) {i : Nat} (hi : i < 30) : mm_V (zz_K l D aa b0) 1 yX12_nextKind cX12_nextKind 3 (some .int) 0 [(0, .ref (o)), (1, .int (nI (i)))] [] h 0 0 (fun r h' => h' = h ∧ r = some (.int (Int32.ofInt (ro_next w i)))) := by
  have hn := hw.1
  have h15 := hw.2.1
  have hrow := hw.2.2
  have lp : ∀ (f j : Nat), w.1 - j ≤ f → j < 60 → ro_skip w f j = ro_skip w (w.1 - (i + 1)) (i + 1) → mm_V (zz_K l D aa b0) 1 yX12_nextKind cX12_nextKind 3 (some .int) 4 [(0, .ref (o)), (1, .int (nI (i))), (2, .int (nI (j)))] [] h 0 0 (fun r h' => h' = h ∧ r = some (.int (Int32.ofInt (ro_next w i)))) := by
    intro f
    induction f with
    | zero =>
      intro j hj hj2 e
      refine mm_aload_n dX12_nextKind_4 rfl 0 rfl ?_
      refine mm_iload_n dX12_nextKind_5 rfl 2 rfl ?_
      refine rm_callVr (As := [.int (nI (j))]) (rest := []) (d2 := 0) dX12_nextKind_6 ha zc_isDot zc_isDot_s rfl rfl rfl (Nat.le_of_ble_eq_true rfl) (Nat.le_of_ble_eq_true rfl) (by decide) (tm_isDot ha hw (by omega)) ?_
      refine mn_ifB_eq (tgt := 18) dX12_nextKind_9 (by decide) (fun c9 => ?_) (fun c9 => ?_)
      · have hk : ro_skip w (w.1 - (i + 1)) (i + 1) = j := by rw [← e]; rfl
        refine mm_iload_n dX12_nextKind_18 rfl 2 rfl ?_
        refine mm_aload_n dX12_nextKind_19 rfl 0 rfl ?_
        refine rm_getI 15 dX12_nextKind_20 ha zf_size (by decide) rfl rfl ?_
        refine mn_top (u := .int (nI (w.1))) (congrArg Value.int ((h15))) ?_
        refine mn_icmp_ge (tgt := 35) dX12_nextKind_23 (by decide) (by omega) (by omega) (fun c23 => ?_) (fun c23 => ?_)
        · refine mm_iconst (v := (-1)) dX12_nextKind_35 (by decide) ?_
          exact mm_iret dX12_nextKind_36 rfl (⟨rfl, by rw [show ro_next w i = -1 from by unfold ro_next; rw [hk, if_neg (by omega)]]; rfl⟩)
        · refine mm_aload_n dX12_nextKind_26 rfl 0 rfl ?_
          refine rm_getA 17 dX12_nextKind_27 ha zf_rowKind (by decide) rfl ?_
          refine mm_iload_n dX12_nextKind_30 rfl 2 rfl ?_
          refine rm_iald (k := 17) dX12_nextKind_31 ha rfl rfl rfl (show j < 24 from (by omega)) ?_
          have qa32 := (hrow (j) (by omega)).2.2.2.1
          have qb32 := (hrow (j) (by omega)).2.2.2.2
          refine mn_top (u := .int (nI (w.2.2.1 (j)))) (congrArg Value.int ((hrow (j) (by omega)).2.1)) ?_
          refine mm_goto (tgt := 36) dX12_nextKind_32 (by decide) ?_
          exact mm_iret dX12_nextKind_36 rfl (⟨rfl, by rw [show ro_next w i = (w.2.2.1 j : Int) from by unfold ro_next; rw [hk, if_pos (by omega)]]; rfl⟩)
      · have hj : j < w.1 := by unfold ro_dot at c9; simp_all
        omega
    | succ f ih =>
      intro j hj hj2 e
      refine mm_aload_n dX12_nextKind_4 rfl 0 rfl ?_
      refine mm_iload_n dX12_nextKind_5 rfl 2 rfl ?_
      refine rm_callVr (As := [.int (nI (j))]) (rest := []) (d2 := 0) dX12_nextKind_6 ha zc_isDot zc_isDot_s rfl rfl rfl (Nat.le_of_ble_eq_true rfl) (Nat.le_of_ble_eq_true rfl) (by decide) (tm_isDot ha hw (by omega)) ?_
      refine mn_ifB_eq (tgt := 18) dX12_nextKind_9 (by decide) (fun c9 => ?_) (fun c9 => ?_)
      · have hk : ro_skip w (w.1 - (i + 1)) (i + 1) = j := by rw [← e]; unfold ro_skip; rw [if_neg (by rw [c9]; decide)]
        refine mm_iload_n dX12_nextKind_18 rfl 2 rfl ?_
        refine mm_aload_n dX12_nextKind_19 rfl 0 rfl ?_
        refine rm_getI 15 dX12_nextKind_20 ha zf_size (by decide) rfl rfl ?_
        refine mn_top (u := .int (nI (w.1))) (congrArg Value.int ((h15))) ?_
        refine mn_icmp_ge (tgt := 35) dX12_nextKind_23 (by decide) (by omega) (by omega) (fun c23 => ?_) (fun c23 => ?_)
        · refine mm_iconst (v := (-1)) dX12_nextKind_35 (by decide) ?_
          exact mm_iret dX12_nextKind_36 rfl (⟨rfl, by rw [show ro_next w i = -1 from by unfold ro_next; rw [hk, if_neg (by omega)]]; rfl⟩)
        · refine mm_aload_n dX12_nextKind_26 rfl 0 rfl ?_
          refine rm_getA 17 dX12_nextKind_27 ha zf_rowKind (by decide) rfl ?_
          refine mm_iload_n dX12_nextKind_30 rfl 2 rfl ?_
          refine rm_iald (k := 17) dX12_nextKind_31 ha rfl rfl rfl (show j < 24 from (by omega)) ?_
          have qa32 := (hrow (j) (by omega)).2.2.2.1
          have qb32 := (hrow (j) (by omega)).2.2.2.2
          refine mn_top (u := .int (nI (w.2.2.1 (j)))) (congrArg Value.int ((hrow (j) (by omega)).2.1)) ?_
          refine mm_goto (tgt := 36) dX12_nextKind_32 (by decide) ?_
          exact mm_iret dX12_nextKind_36 rfl (⟨rfl, by rw [show ro_next w i = (w.2.2.1 j : Int) from by unfold ro_next; rw [hk, if_pos (by omega)]]; rfl⟩)
      · have hj : j < w.1 := by unfold ro_dot at c9; simp_all
        refine mn_iinc (m := 1) (L' := [(2, .int (nI (j + 1))), (0, .ref (o)), (1, .int (nI (i)))]) dX12_nextKind_12 (by decide) 2 rfl (by decide) rfl ?_
        refine mm_goto (tgt := 4) dX12_nextKind_15 (by decide) ?_
        refine mn_sub [1, 2, 0] rfl ?_
        exact ih (j + 1) (by omega) (by omega) (by rw [← e]; conv => rhs; unfold ro_skip; rw [if_pos c9])
  refine mm_iload_n dX12_nextKind_0 rfl 1 rfl ?_
  refine mm_iconst (v := nI 1) dX12_nextKind_1 (by decide) ?_
  refine mn_iadd dX12_nextKind_2 ?_
  refine mm_istore_n (L' := [(2, .int (nI ((i) + (1)))), (0, .ref (o)), (1, .int (nI (i)))]) dX12_nextKind_3 rfl (by decide) rfl ?_
  refine mn_sub [1, 2, 0] rfl ?_
  exact lp (w.1 - (i + 1)) (i + 1) (Nat.le_refl _) (by omega) rfl
theorem ro_next_b {F : Nat → Int32} {A : Nat → Nat → Int32} {w : ro_w} (hw : ro_at F A w) (i : Nat) : -1 ≤ ro_next w i ∧ ro_next w i < 7 := by
  unfold ro_next
  split
  · rename_i h
    have := (hw.2.2 _ h).2.2.2.2
    omega
  · omega
theorem z_lt0 {z : Int} (h1 : -1 ≤ z) (h2 : z < 1073741824) : Int32.ofInt z < 0 ↔ z < 0 := sc_lt (c := 0) h1 h2 (by decide)
theorem z_gt {z : Int} {k : Nat} (h1 : -1 ≤ z) (h2 : z < 1073741824) (hk : k < 2 ^ 31) : nI k < Int32.ofInt z ↔ (k : Int) < z := by
  rw [Int32.lt_iff_toInt_lt, sc_ti h1 h2, nI_toInt hk]
theorem z_eq {z : Int} {k : Nat} (h1 : -1 ≤ z) (h2 : z < 1073741824) (hk : k < 2 ^ 31) : Int32.ofInt z = nI k ↔ z = (k : Int) := by
  rw [← Int32.toInt_inj, sc_ti h1 h2, nI_toInt hk]
set_option maxRecDepth 100000 in
set_option maxHeartbeats 4000000 in
theorem tm_scanThirds {l : Launch} {D : va_G} {aa : Nat → ClassId} {b0 : Nat} {h : mm_H} {o : Nat} {F : Nat → Int32} {G : Nat → Int64} {A : Nat → Nat → Int32} {B : Nat → Nat → Int64} (ha : rm_at o F G A B h) {w : ro_w} {sg g : Nat} {T : Nat → Nat} (hx0 : cx_at F A w sg g T) {S Sf : sc_S} (hs : sc_at F S) {k a b : Nat} (hk : k < 7) (hab : a < b) (hb : b ≤ 24) (hSf : List.foldl sc_step S (sp_thirds w k a b) = Sf) : mm_V (zz_K l D aa b0) 2 yX12_scanThirds cX12_scanThirds 6 none 0 [(0, .ref (o)), (1, .int (nI (k))), (2, .int (nI (a))), (3, .int (nI (b)))] [] h 0 0 (fun r h' => r = none ∧ ∃ F' : Nat → Int32, rm_at o F' G A B h' ∧ rm_fr o h h' ∧ sc_at F' Sf ∧ sc_F F F') := by
  have hf0 : rm_fr o h h := rm_fr.rf
  have hF0 : sc_F F F := sc_F.rf
  have out : ∀ (n j : Nat), b - j ≤ n → a ≤ j ∧ j ≤ b → ∀ (S : sc_S), List.foldl sc_step S ((sp_rg j b).flatMap (fun m => (sp_rg m b).map (sp_t2 w k a b m))) = Sf → ∀ (F1 : Nat → Int32) (h1 : mm_H), rm_at o F1 G A B h1 → rm_fr o h h1 → sc_F F F1 → sc_at F1 S → mm_V (zz_K l D aa b0) 2 yX12_scanThirds cX12_scanThirds 6 none 5 [(0, .ref (o)), (1, .int (nI (k))), (2, .int (nI (a))), (3, .int (nI (b))), (4, .int (nI (j + 1)))] [] h1 0 0 (fun r h' => r = none ∧ ∃ F' : Nat → Int32, rm_at o F' G A B h' ∧ rm_fr o h h' ∧ sc_at F' Sf ∧ sc_F F F') := by
    intro n
    induction n with
    | zero =>
      intro j hn hj S hS F1 h1 ha hf hF hs
      refine mm_iload dX12_scanThirds_5 4 rfl ?_
      refine mm_iload_n dX12_scanThirds_7 rfl 3 rfl ?_
      refine mn_icmp_ge (tgt := 74) dX12_scanThirds_8 (by decide) (by omega) (by omega) (fun c8 => ?_) (fun c8 => ?_)
      · rw [sp_rg_0 (by omega)] at hS
        exact mm_vret dX12_scanThirds_74 rfl (⟨rfl, _, ha, hf, by rw [← hS]; exact hs, hF⟩)
      · omega
    | succ n ih =>
      intro j hn hj S hS F1 h1 ha hf hF hs
      refine mm_iload dX12_scanThirds_5 4 rfl ?_
      refine mm_iload_n dX12_scanThirds_7 rfl 3 rfl ?_
      refine mn_icmp_ge (tgt := 74) dX12_scanThirds_8 (by decide) (by omega) (by omega) (fun c8 => ?_) (fun c8 => ?_)
      · rw [sp_rg_0 (by omega)] at hS
        exact mm_vret dX12_scanThirds_74 rfl (⟨rfl, _, ha, hf, by rw [← hS]; exact hs, hF⟩)
      · rw [sp_rg_s (by omega)] at hS
        rw [List.flatMap_cons, List.foldl_append] at hS
        refine mm_iload dX12_scanThirds_11 4 rfl ?_
        refine mm_iconst (v := nI 1) dX12_scanThirds_13 (by decide) ?_
        refine mn_iadd dX12_scanThirds_14 ?_
        refine mm_istore (L' := [(5, .int (nI ((j + 1) + (1)))), (0, .ref (o)), (1, .int (nI (k))), (2, .int (nI (a))), (3, .int (nI (b))), (4, .int (nI (j + 1)))]) dX12_scanThirds_15 (by decide) rfl ?_
        have inn : ∀ (f i : Nat), b - i ≤ f → j + 1 ≤ i ∧ i ≤ b → ∀ (S : sc_S), List.foldl sc_step (List.foldl sc_step S ((sp_rg i b).map (sp_t2 w k a b (j + 1)))) ((sp_rg (j + 1) b).flatMap (fun m => (sp_rg m b).map (sp_t2 w k a b m))) = Sf → ∀ (F1 : Nat → Int32) (h1 : mm_H), rm_at o F1 G A B h1 → rm_fr o h h1 → sc_F F F1 → sc_at F1 S → mm_V (zz_K l D aa b0) 2 yX12_scanThirds cX12_scanThirds 6 none 17 [(0, .ref (o)), (1, .int (nI (k))), (2, .int (nI (a))), (3, .int (nI (b))), (4, .int (nI (j + 1))), (5, .int (nI (i + 1)))] [] h1 0 0 (fun r h' => r = none ∧ ∃ F' : Nat → Int32, rm_at o F' G A B h' ∧ rm_fr o h h' ∧ sc_at F' Sf ∧ sc_F F F') := by
          intro f
          induction f with
          | zero =>
            intro i hn2 hi S hS F1 h1 ha hf hF hs
            refine mm_iload dX12_scanThirds_17 5 rfl ?_
            refine mm_iload_n dX12_scanThirds_19 rfl 3 rfl ?_
            refine mn_icmp_ge (tgt := 68) dX12_scanThirds_20 (by decide) (by omega) (by omega) (fun c20 => ?_) (fun c20 => ?_)
            · rw [sp_rg_0 (by omega)] at hS
              refine mn_iinc (m := 1) (L' := [(4, .int (nI (j + 1 + 1))), (0, .ref (o)), (1, .int (nI (k))), (2, .int (nI (a))), (3, .int (nI (b))), (5, .int (nI (i + 1)))]) dX12_scanThirds_68 (by decide) 4 rfl (by decide) rfl ?_
              refine mm_goto (tgt := 5) dX12_scanThirds_71 (by decide) ?_
              refine mn_sub [1, 2, 3, 4, 0] rfl ?_
              exact ih (j + 1) (by omega) (by omega) _ (by exact hS) _ _ ha hf hF hs
            · omega
          | succ f ihf =>
            intro i hn2 hi S hS F1 h1 ha hf hF hs
            refine mm_iload dX12_scanThirds_17 5 rfl ?_
            refine mm_iload_n dX12_scanThirds_19 rfl 3 rfl ?_
            refine mn_icmp_ge (tgt := 68) dX12_scanThirds_20 (by decide) (by omega) (by omega) (fun c20 => ?_) (fun c20 => ?_)
            · rw [sp_rg_0 (by omega)] at hS
              refine mn_iinc (m := 1) (L' := [(4, .int (nI (j + 1 + 1))), (0, .ref (o)), (1, .int (nI (k))), (2, .int (nI (a))), (3, .int (nI (b))), (5, .int (nI (i + 1)))]) dX12_scanThirds_68 (by decide) 4 rfl (by decide) rfl ?_
              refine mm_goto (tgt := 5) dX12_scanThirds_71 (by decide) ?_
              refine mn_sub [1, 2, 3, 4, 0] rfl ?_
              exact ih (j + 1) (by omega) (by omega) _ (by exact hS) _ _ ha hf hF hs
            · rw [sp_rg_s (by omega)] at hS
              have hx := cx_F hF hx0
              have hw := hx.1
              have ht := hx.2.2.2.1
              refine mm_aload_n dX12_scanThirds_23 rfl 0 rfl ?_
              refine mm_bipush (v := nI 15) dX12_scanThirds_24 (by decide) ?_
              refine mm_iload dX12_scanThirds_26 4 rfl ?_
              refine mm_iload dX12_scanThirds_28 5 rfl ?_
              refine mm_iconst (v := nI 0) dX12_scanThirds_30 (by decide) ?_
              refine mm_aload_n dX12_scanThirds_31 rfl 0 rfl ?_
              refine mm_iload_n dX12_scanThirds_32 rfl 1 rfl ?_
              refine mm_iload_n dX12_scanThirds_33 rfl 2 rfl ?_
              refine mm_iload dX12_scanThirds_34 4 rfl ?_
              refine rm_callVr (As := [.int (nI (k)), .int (nI (a)), .int (nI (j + 1))]) (rest := [.int (nI (0)), .int (nI (i + 1)), .int (nI (j + 1)), .int (nI (15)), .ref (o)]) (d2 := 1) dX12_scanThirds_36 ha zc_thirdWays zc_thirdWays_s rfl rfl rfl (Nat.le_of_ble_eq_true rfl) (Nat.le_of_ble_eq_true rfl) (by decide) (tm_thirdWays ha hw (by omega) (by omega) (by omega)) ?_
              have wb36 : ro_third w (k) (a) (j + 1) ≤ 1 := ro_third_le
              refine mm_aload_n dX12_scanThirds_39 rfl 0 rfl ?_
              refine mm_iload_n dX12_scanThirds_40 rfl 1 rfl ?_
              refine mm_iload dX12_scanThirds_41 4 rfl ?_
              refine mm_iload dX12_scanThirds_43 5 rfl ?_
              refine rm_callVr (As := [.int (nI (k)), .int (nI (j + 1)), .int (nI (i + 1))]) (rest := [.int (nI (ro_third w (k) (a) (j + 1))), .int (nI (0)), .int (nI (i + 1)), .int (nI (j + 1)), .int (nI (15)), .ref (o)]) (d2 := 1) dX12_scanThirds_45 ha zc_thirdWays zc_thirdWays_s rfl rfl rfl (Nat.le_of_ble_eq_true rfl) (Nat.le_of_ble_eq_true rfl) (by decide) (tm_thirdWays ha hw (by omega) (by omega) (by omega)) ?_
              have wb45 : ro_third w (k) (j + 1) (i + 1) ≤ 1 := ro_third_le
              refine mn_imul dX12_scanThirds_48 ?_
              refine mm_aload_n dX12_scanThirds_49 rfl 0 rfl ?_
              refine mm_iload_n dX12_scanThirds_50 rfl 1 rfl ?_
              refine mm_iload dX12_scanThirds_51 5 rfl ?_
              refine mm_iload_n dX12_scanThirds_53 rfl 3 rfl ?_
              refine rm_callVr (As := [.int (nI (k)), .int (nI (i + 1)), .int (nI (b))]) (rest := [.int (nI ((ro_third w (k) (a) (j + 1)) * (ro_third w (k) (j + 1) (i + 1)))), .int (nI (0)), .int (nI (i + 1)), .int (nI (j + 1)), .int (nI (15)), .ref (o)]) (d2 := 1) dX12_scanThirds_54 ha zc_thirdWays zc_thirdWays_s rfl rfl rfl (Nat.le_of_ble_eq_true rfl) (Nat.le_of_ble_eq_true rfl) (by decide) (tm_thirdWays ha hw (by omega) (by omega) (by omega)) ?_
              have wb54 : ro_third w (k) (i + 1) (b) ≤ 1 := ro_third_le
              have nb0 := Nat.mul_le_mul (Nat.mul_le_mul wb36 wb45) wb54
              refine mn_imul dX12_scanThirds_57 ?_
              refine mn_i2l dX12_scanThirds_58 (by omega) ?_
              have nb := Nat.mul_le_mul (Nat.mul_le_mul wb36 wb45) wb54
              refine rm_callV (As := [.int (nI (15)), .int (nI (j + 1)), .int (nI (i + 1)), .int (nI (0)), .long (lN (((ro_third w (k) (a) (j + 1)) * (ro_third w (k) (j + 1) (i + 1))) * (ro_third w (k) (i + 1) (b))))]) (rest := []) (d2 := 1) dX12_scanThirds_59 ha zc_offer zc_offer_s rfl rfl rfl (Nat.le_of_ble_eq_true rfl) (Nat.le_of_ble_eq_true rfl) (by decide) (tm_offer (form := 15) (cut := j + 1) (cut2 := i + 1) (dot := false) (n := ((ro_third w (k) (a) (j + 1)) * (ro_third w (k) (j + 1) (i + 1))) * (ro_third w (k) (i + 1) (b))) ha hs (by omega)) (fun r h1 hq => ?_)
              obtain ⟨rfl, F1, ha, hf', hs, hF'⟩ := hq
              have hf := hf.tr hf'
              have hF := hF.tr hF'
              have hx := cx_F hF hx0
              have hw := hx.1
              have ht := hx.2.2.2.1
              refine mn_iinc (m := 1) (L' := [(5, .int (nI (i + 1 + 1))), (0, .ref (o)), (1, .int (nI (k))), (2, .int (nI (a))), (3, .int (nI (b))), (4, .int (nI (j + 1)))]) dX12_scanThirds_62 (by decide) 5 rfl (by decide) rfl ?_
              refine mm_goto (tgt := 17) dX12_scanThirds_65 (by decide) ?_
              refine mn_sub [1, 2, 3, 4, 5, 0] rfl ?_
              exact ihf (i + 1) (by omega) (by omega) _ (by exact hS) _ _ ha hf hF hs
        refine mn_sub [1, 2, 3, 4, 5, 0] rfl ?_
        exact inn b (j + 1) (by omega) (by omega) _ (by exact hS) _ _ ha hf hF hs
  refine mm_iload_n dX12_scanThirds_0 rfl 2 rfl ?_
  refine mm_iconst (v := nI 1) dX12_scanThirds_1 (by decide) ?_
  refine mn_iadd dX12_scanThirds_2 ?_
  refine mm_istore (L' := [(4, .int (nI ((a) + (1)))), (0, .ref (o)), (1, .int (nI (k))), (2, .int (nI (a))), (3, .int (nI (b)))]) dX12_scanThirds_3 (by decide) rfl ?_
  refine mn_sub [1, 2, 3, 4, 0] rfl ?_
  exact out b a (by omega) (by omega) S hSf F h ha hf0 hF0 hs
