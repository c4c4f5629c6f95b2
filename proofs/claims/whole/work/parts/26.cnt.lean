set_option maxRecDepth 100000 in
set_option maxHeartbeats 4000000 in
theorem tm_countThirds {l : Launch} {D : va_G} {aa : Nat → ClassId} {b0 : Nat} {h : mm_H} {o : Nat} {F : Nat → Int32} {G : Nat → Int64} {A : Nat → Nat → Int32} {B : Nat → Nat → Int64} (ha : rm_at o F G A B h) {w : ro_w} {sg g : Nat} {T : Nat → Nat} (hx : cx_at F A w sg g T) {k a b : Nat} (hk : k < 7) (hab : a < b) (hb : b ≤ 24) : mm_V (zz_K l D aa b0) 2 yX12_countThirds cX12_countThirds 7 (some .int) 0 [(0, .ref (o)), (1, .int (nI (k))), (2, .int (nI (a))), (3, .int (nI (b)))] [] h 0 0 (fun r h' => h' = h ∧ r = some (.int (nI (ct_th w k a b)))) := by
  have hw := hx.1
  have out : ∀ (n j acc : Nat), b - j ≤ n → a ≤ j ∧ j ≤ b → acc + sm_o ((sp_rg j b).flatMap (fun m => (sp_rg m b).map (sp_t2 w k a b m))) = ct_th w k a b → mm_V (zz_K l D aa b0) 2 yX12_countThirds cX12_countThirds 7 (some .int) 8 [(0, .ref (o)), (1, .int (nI (k))), (2, .int (nI (a))), (3, .int (nI (b))), (4, .int (nI (acc))), (5, .int (nI (j + 1)))] [] h 0 0 (fun r h' => h' = h ∧ r = some (.int (nI (ct_th w k a b)))) := by
    intro n
    induction n with
    | zero =>
      intro j acc hn hj hS
      refine mm_iload dX12_countThirds_8 5 rfl ?_
      refine mm_iload_n dX12_countThirds_10 rfl 3 rfl ?_
      refine mn_icmp_ge (tgt := 70) dX12_countThirds_11 (by decide) (by omega) (by omega) (fun c11 => ?_) (fun c11 => ?_)
      · rw [sp_rg_0 (a := j) (by omega)] at hS
        refine mm_iload dX12_countThirds_70 4 rfl ?_
        exact mm_iret dX12_countThirds_72 rfl (⟨rfl, by rw [← hS]; rfl⟩)
      · omega
    | succ n ih =>
      intro j acc hn hj hS
      refine mm_iload dX12_countThirds_8 5 rfl ?_
      refine mm_iload_n dX12_countThirds_10 rfl 3 rfl ?_
      refine mn_icmp_ge (tgt := 70) dX12_countThirds_11 (by decide) (by omega) (by omega) (fun c11 => ?_) (fun c11 => ?_)
      · rw [sp_rg_0 (a := j) (by omega)] at hS
        refine mm_iload dX12_countThirds_70 4 rfl ?_
        exact mm_iret dX12_countThirds_72 rfl (⟨rfl, by rw [← hS]; rfl⟩)
      · rw [sp_rg_s (a := j) (by omega), List.flatMap_cons, sm_app] at hS
        refine mm_iload dX12_countThirds_14 5 rfl ?_
        refine mm_iconst (v := nI 1) dX12_countThirds_16 (by decide) ?_
        refine mn_iadd dX12_countThirds_17 ?_
        refine mm_istore (L' := [(6, .int (nI ((j + 1) + (1)))), (0, .ref (o)), (1, .int (nI (k))), (2, .int (nI (a))), (3, .int (nI (b))), (4, .int (nI (acc))), (5, .int (nI (j + 1)))]) dX12_countThirds_18 (by decide) rfl ?_
        have inn : ∀ (f i acc : Nat), b - i ≤ f → j + 1 ≤ i ∧ i ≤ b → acc + (sm_o ((sp_rg i b).map (sp_t2 w k a b (j + 1))) + sm_o ((sp_rg (j + 1) b).flatMap (fun m => (sp_rg m b).map (sp_t2 w k a b m)))) = ct_th w k a b → mm_V (zz_K l D aa b0) 2 yX12_countThirds cX12_countThirds 7 (some .int) 20 [(0, .ref (o)), (1, .int (nI (k))), (2, .int (nI (a))), (3, .int (nI (b))), (4, .int (nI (acc))), (5, .int (nI (j + 1))), (6, .int (nI (i + 1)))] [] h 0 0 (fun r h' => h' = h ∧ r = some (.int (nI (ct_th w k a b)))) := by
          intro f
          induction f with
          | zero =>
            intro i acc hn2 hi hS
            refine mm_iload dX12_countThirds_20 6 rfl ?_
            refine mm_iload_n dX12_countThirds_22 rfl 3 rfl ?_
            refine mn_icmp_ge (tgt := 64) dX12_countThirds_23 (by decide) (by omega) (by omega) (fun c23 => ?_) (fun c23 => ?_)
            · rw [sp_rg_0 (a := i) (by omega)] at hS
              refine mn_iinc (m := 1) (L' := [(5, .int (nI (j + 1 + 1))), (0, .ref (o)), (1, .int (nI (k))), (2, .int (nI (a))), (3, .int (nI (b))), (4, .int (nI (acc))), (6, .int (nI (i + 1)))]) dX12_countThirds_64 (by decide) 5 rfl (by decide) rfl ?_
              refine mm_goto (tgt := 8) dX12_countThirds_67 (by decide) ?_
              refine mn_sub [1, 2, 3, 4, 5, 0] rfl ?_
              exact ih (j + 1) acc (by omega) (by omega) (by rw [← hS]; show _ = acc + (0 + _); omega)
            · omega
          | succ f ihf =>
            intro i acc hn2 hi hS
            refine mm_iload dX12_countThirds_20 6 rfl ?_
            refine mm_iload_n dX12_countThirds_22 rfl 3 rfl ?_
            refine mn_icmp_ge (tgt := 64) dX12_countThirds_23 (by decide) (by omega) (by omega) (fun c23 => ?_) (fun c23 => ?_)
            · rw [sp_rg_0 (a := i) (by omega)] at hS
              refine mn_iinc (m := 1) (L' := [(5, .int (nI (j + 1 + 1))), (0, .ref (o)), (1, .int (nI (k))), (2, .int (nI (a))), (3, .int (nI (b))), (4, .int (nI (acc))), (6, .int (nI (i + 1)))]) dX12_countThirds_64 (by decide) 5 rfl (by decide) rfl ?_
              refine mm_goto (tgt := 8) dX12_countThirds_67 (by decide) ?_
              refine mn_sub [1, 2, 3, 4, 5, 0] rfl ?_
              exact ih (j + 1) acc (by omega) (by omega) (by rw [← hS]; show _ = acc + (0 + _); omega)
            · rw [sp_rg_s (a := i) (by omega), List.map_cons, sm_cons] at hS
              refine mm_iload dX12_countThirds_26 4 rfl ?_
              refine mm_aload_n dX12_countThirds_28 rfl 0 rfl ?_
              refine mm_iload_n dX12_countThirds_29 rfl 1 rfl ?_
              refine mm_iload_n dX12_countThirds_30 rfl 2 rfl ?_
              refine mm_iload dX12_countThirds_31 5 rfl ?_
              refine rm_callVr (As := [.int (nI (k)), .int (nI (a)), .int (nI (j + 1))]) (rest := [.int (nI (acc))]) (d2 := 1) dX12_countThirds_33 ha zc_thirdWays zc_thirdWays_s rfl rfl rfl (Nat.le_of_ble_eq_true rfl) (Nat.le_of_ble_eq_true rfl) (by decide) (tm_thirdWays ha hw (by omega) (by omega) (by omega)) ?_
              have wb33 : ro_third w (k) (a) (j + 1) ≤ 1 := ro_third_le
              refine mm_aload_n dX12_countThirds_36 rfl 0 rfl ?_
              refine mm_iload_n dX12_countThirds_37 rfl 1 rfl ?_
              refine mm_iload dX12_countThirds_38 5 rfl ?_
              refine mm_iload dX12_countThirds_40 6 rfl ?_
              refine rm_callVr (As := [.int (nI (k)), .int (nI (j + 1)), .int (nI (i + 1))]) (rest := [.int (nI (ro_third w (k) (a) (j + 1))), .int (nI (acc))]) (d2 := 1) dX12_countThirds_42 ha zc_thirdWays zc_thirdWays_s rfl rfl rfl (Nat.le_of_ble_eq_true rfl) (Nat.le_of_ble_eq_true rfl) (by decide) (tm_thirdWays ha hw (by omega) (by omega) (by omega)) ?_
              have wb42 : ro_third w (k) (j + 1) (i + 1) ≤ 1 := ro_third_le
              refine mn_imul dX12_countThirds_45 ?_
              refine mm_aload_n dX12_countThirds_46 rfl 0 rfl ?_
              refine mm_iload_n dX12_countThirds_47 rfl 1 rfl ?_
              refine mm_iload dX12_countThirds_48 6 rfl ?_
              refine mm_iload_n dX12_countThirds_50 rfl 3 rfl ?_
              refine rm_callVr (As := [.int (nI (k)), .int (nI (i + 1)), .int (nI (b))]) (rest := [.int (nI ((ro_third w (k) (a) (j + 1)) * (ro_third w (k) (j + 1) (i + 1)))), .int (nI (acc))]) (d2 := 1) dX12_countThirds_51 ha zc_thirdWays zc_thirdWays_s rfl rfl rfl (Nat.le_of_ble_eq_true rfl) (Nat.le_of_ble_eq_true rfl) (by decide) (tm_thirdWays ha hw (by omega) (by omega) (by omega)) ?_
              have wb51 : ro_third w (k) (i + 1) (b) ≤ 1 := ro_third_le
              refine mn_imul dX12_countThirds_54 ?_
              refine mn_iadd dX12_countThirds_55 ?_
              refine mm_istore (L' := [(4, .int (nI ((acc) + (((ro_third w (k) (a) (j + 1)) * (ro_third w (k) (j + 1) (i + 1))) * (ro_third w (k) (i + 1) (b)))))), (0, .ref (o)), (1, .int (nI (k))), (2, .int (nI (a))), (3, .int (nI (b))), (5, .int (nI (j + 1))), (6, .int (nI (i + 1)))]) dX12_countThirds_56 (by decide) rfl ?_
              refine mn_iinc (m := 1) (L' := [(6, .int (nI (i + 1 + 1))), (4, .int (nI ((acc) + (((ro_third w (k) (a) (j + 1)) * (ro_third w (k) (j + 1) (i + 1))) * (ro_third w (k) (i + 1) (b)))))), (0, .ref (o)), (1, .int (nI (k))), (2, .int (nI (a))), (3, .int (nI (b))), (5, .int (nI (j + 1)))]) dX12_countThirds_58 (by decide) 6 rfl (by decide) rfl ?_
              refine mm_goto (tgt := 20) dX12_countThirds_61 (by decide) ?_
              refine mn_sub [2, 3, 4, 5, 1, 6, 0] rfl ?_
              exact ihf (i + 1) _ (by omega) (by omega) (by rw [← hS]; show _ = acc + (ro_third w k a (j + 1) * ro_third w k (j + 1) (i + 1) * ro_third w k (i + 1) b + _ + _); omega)
        refine mn_sub [1, 2, 3, 4, 5, 6, 0] rfl ?_
        exact inn b (j + 1) acc (by omega) (by omega) hS
  refine mm_iconst (v := nI 0) dX12_countThirds_0 (by decide) ?_
  refine mm_istore (L' := [(4, .int (nI (0))), (0, .ref (o)), (1, .int (nI (k))), (2, .int (nI (a))), (3, .int (nI (b)))]) dX12_countThirds_1 (by decide) rfl ?_
  refine mm_iload_n dX12_countThirds_3 rfl 3 rfl ?_
  refine mm_iconst (v := nI 1) dX12_countThirds_4 (by decide) ?_
  refine mn_iadd dX12_countThirds_5 ?_
  refine mm_istore (L' := [(5, .int (nI ((a) + (1)))), (4, .int (nI (0))), (0, .ref (o)), (1, .int (nI (k))), (2, .int (nI (a))), (3, .int (nI (b)))]) dX12_countThirds_6 (by decide) rfl ?_
  refine mn_sub [2, 3, 4, 5, 1, 0] rfl ?_
  exact out b a 0 (by omega) (by omega) (by show 0 + _ = _; rw [Nat.zero_add]; rfl)
set_option maxRecDepth 100000 in
set_option maxHeartbeats 4000000 in
theorem tm_countGreater {l : Launch} {D : va_G} {aa : Nat → ClassId} {b0 : Nat} {h : mm_H} {o : Nat} {F : Nat → Int32} {G : Nat → Int64} {A : Nat → Nat → Int32} {B : Nat → Nat → Int64} (ha : rm_at o F G A B h) {w : ro_w} {sg g : Nat} {T : Nat → Nat} (hx : cx_at F A w sg g T) {k a b : Nat} (hk : k < 7) (hab : a < b) (hb : b ≤ 24) : mm_V (zz_K l D aa b0) 3 yX12_countGreater cX12_countGreater 5 (some .int) 0 [(0, .ref (o)), (1, .int (nI (k))), (2, .int (nI (a))), (3, .int (nI (b)))] [] h 0 0 (fun r h' => h' = h ∧ r = some (.int (nI (ct_gr w k a b)))) := by
  have hw := hx.1
  have K44 : ∀ acc : Nat, acc + (if b = a + 2 ∧ ro_plain w a k = true ∧ ro_dot w (a + 1) = true then 1 else 0) = ct_gr w k a b → mm_V (zz_K l D aa b0) 3 yX12_countGreater cX12_countGreater 5 (some .int) 44 [(0, .ref (o)), (1, .int (nI (k))), (2, .int (nI (a))), (3, .int (nI (b))), (4, .int (nI (acc)))] [] h 0 0 (fun r h' => h' = h ∧ r = some (.int (nI (ct_gr w k a b)))) := by
    intro acc hS
    refine mm_iload_n dX12_countGreater_44 rfl 3 rfl ?_
    refine mm_iload_n dX12_countGreater_45 rfl 2 rfl ?_
    refine mm_iconst (v := nI 2) dX12_countGreater_46 (by decide) ?_
    refine mn_iadd dX12_countGreater_47 ?_
    refine mn_icmp_ne (tgt := 77) dX12_countGreater_48 (by decide) (by omega) (by omega) (fun c48 => ?_) (fun c48 => ?_)
    · refine mm_iload dX12_countGreater_77 4 rfl ?_
      exact mm_iret dX12_countGreater_79 rfl (⟨rfl, by rw [← hS, if_neg (by rintro ⟨z1, z2, z3⟩; first | omega | simp_all)]; rfl⟩)
    · refine mm_aload_n dX12_countGreater_51 rfl 0 rfl ?_
      refine mm_iload_n dX12_countGreater_52 rfl 2 rfl ?_
      refine mm_iload_n dX12_countGreater_53 rfl 1 rfl ?_
      refine rm_callVr (As := [.int (nI (a)), .int (nI (k))]) (rest := []) (d2 := 0) dX12_countGreater_54 ha zc_isPlain zc_isPlain_s rfl rfl rfl (Nat.le_of_ble_eq_true rfl) (Nat.le_of_ble_eq_true rfl) (by decide) (tm_isPlain ha hw (by omega) (by omega)) ?_
      refine mn_ifB_eq (tgt := 77) dX12_countGreater_57 (by decide) (fun c57 => ?_) (fun c57 => ?_)
      · refine mm_iload dX12_countGreater_77 4 rfl ?_
        exact mm_iret dX12_countGreater_79 rfl (⟨rfl, by rw [← hS, if_neg (by rintro ⟨z1, z2, z3⟩; first | omega | simp_all)]; rfl⟩)
      · refine mm_aload_n dX12_countGreater_60 rfl 0 rfl ?_
        refine mm_iload_n dX12_countGreater_61 rfl 2 rfl ?_
        refine mm_iconst (v := nI 1) dX12_countGreater_62 (by decide) ?_
        refine mn_iadd dX12_countGreater_63 ?_
        refine rm_callVr (As := [.int (nI ((a) + (1)))]) (rest := []) (d2 := 0) dX12_countGreater_64 ha zc_isDot zc_isDot_s rfl rfl rfl (Nat.le_of_ble_eq_true rfl) (Nat.le_of_ble_eq_true rfl) (by decide) (tm_isDot ha hw (by omega)) ?_
        refine mn_ifB_eq (tgt := 77) dX12_countGreater_67 (by decide) (fun c67 => ?_) (fun c67 => ?_)
        · refine mm_iload dX12_countGreater_77 4 rfl ?_
          exact mm_iret dX12_countGreater_79 rfl (⟨rfl, by rw [← hS, if_neg (by rintro ⟨z1, z2, z3⟩; first | omega | simp_all)]; rfl⟩)
        · refine mm_iload dX12_countGreater_70 4 rfl ?_
          refine mm_iconst (v := nI 1) dX12_countGreater_72 (by decide) ?_
          refine mn_iadd dX12_countGreater_73 ?_
          refine mm_goto (tgt := 79) dX12_countGreater_74 (by decide) ?_
          exact mm_iret dX12_countGreater_79 rfl (⟨rfl, by rw [← hS, if_pos ⟨c48, c57, c67⟩]⟩)
  refine mm_aload_n dX12_countGreater_0 rfl 0 rfl ?_
  refine mm_iload_n dX12_countGreater_1 rfl 1 rfl ?_
  refine mm_iload_n dX12_countGreater_2 rfl 2 rfl ?_
  refine mm_iload_n dX12_countGreater_3 rfl 3 rfl ?_
  refine rm_callVr (As := [.int (nI (k)), .int (nI (a)), .int (nI (b))]) (rest := []) (d2 := 2) dX12_countGreater_4 ha zc_countThirds zc_countThirds_s rfl rfl rfl (Nat.le_of_ble_eq_true rfl) (Nat.le_of_ble_eq_true rfl) (by decide) (tm_countThirds ha hx hk hab hb) ?_
  refine mm_istore (L' := [(4, .int (nI (ct_th w k a b))), (0, .ref (o)), (1, .int (nI (k))), (2, .int (nI (a))), (3, .int (nI (b)))]) dX12_countGreater_7 (by decide) rfl ?_
  refine mm_iload_n dX12_countGreater_9 rfl 4 rfl ?_
  refine mm_iload_n dX12_countGreater_10 rfl 3 rfl ?_
  refine mm_iconst (v := nI 1) dX12_countGreater_11 (by decide) ?_
  refine mn_iadd dX12_countGreater_12 ?_
  refine mn_icmp_ne (tgt := 44) dX12_countGreater_13 (by decide) (by omega) (by omega) (fun c13 => ?_) (fun c13 => ?_)
  · refine mn_sub [1, 2, 3, 4, 0] rfl ?_
    exact K44 _ (by unfold ct_gr; rw [if_neg (c := b = a + 1) c13]; omega)
  · refine mm_iload dX12_countGreater_16 0 rfl ?_
    refine mm_aload_n dX12_countGreater_18 rfl 1 rfl ?_
    refine mm_iload_n dX12_countGreater_19 rfl 3 rfl ?_
    refine mm_iload_n dX12_countGreater_20 rfl 2 rfl ?_
    refine rm_callVr (As := [.int (nI (a)), .int (nI (k))]) (rest := [.int (nI (ct_th w k a b))]) (d2 := 0) dX12_countGreater_21 ha zc_isPlain zc_isPlain_s rfl rfl rfl (Nat.le_of_ble_eq_true rfl) (Nat.le_of_ble_eq_true rfl) (by decide) (tm_isPlain ha hw (by omega) (by omega)) ?_
    refine mn_ifB_ne (tgt := 36) dX12_countGreater_24 (by decide) (fun c24 => ?_) (fun c24 => ?_)
    · refine mm_iconst (v := nI 1) dX12_countGreater_36 (by decide) ?_
      refine mm_goto (tgt := 41) dX12_countGreater_37 (by decide) ?_
      refine mn_iadd dX12_countGreater_41 ?_
      refine mm_istore (L' := [(4, .int (nI ((ct_th w k a b) + (1)))), (0, .ref (o)), (1, .int (nI (k))), (2, .int (nI (a))), (3, .int (nI (b)))]) dX12_countGreater_42 (by decide) rfl ?_
      have e : (ro_plain w a k || ro_rest w a k) = true := by simp_all
      refine mn_sub [1, 2, 3, 4, 0] rfl ?_
      exact K44 _ (by unfold ct_gr; rw [if_pos (c := b = a + 1) c13, e]; first | rfl | omega)
    · refine mm_aload_n dX12_countGreater_27 rfl 1 rfl ?_
      refine mm_iload_n dX12_countGreater_28 rfl 3 rfl ?_
      refine mm_iload_n dX12_countGreater_29 rfl 2 rfl ?_
      refine rm_callVr (As := [.int (nI (a)), .int (nI (k))]) (rest := [.int (nI (ct_th w k a b))]) (d2 := 0) dX12_countGreater_30 ha zc_isRest zc_isRest_s rfl rfl rfl (Nat.le_of_ble_eq_true rfl) (Nat.le_of_ble_eq_true rfl) (by decide) (tm_isRest ha hw (by omega) (by omega)) ?_
      refine mn_ifB_eq (tgt := 40) dX12_countGreater_33 (by decide) (fun c33 => ?_) (fun c33 => ?_)
      · refine mm_iconst (v := nI 0) dX12_countGreater_40 (by decide) ?_
        refine mn_iadd dX12_countGreater_41 ?_
        refine mm_istore (L' := [(4, .int (nI ((ct_th w k a b) + (0)))), (0, .ref (o)), (1, .int (nI (k))), (2, .int (nI (a))), (3, .int (nI (b)))]) dX12_countGreater_42 (by decide) rfl ?_
        have e : (ro_plain w a k || ro_rest w a k) = false := by simp_all
        refine mn_sub [1, 2, 3, 4, 0] rfl ?_
        exact K44 _ (by unfold ct_gr; rw [if_pos (c := b = a + 1) c13, e]; first | rfl | omega)
      · refine mm_iconst (v := nI 1) dX12_countGreater_36 (by decide) ?_
        refine mm_goto (tgt := 41) dX12_countGreater_37 (by decide) ?_
        refine mn_iadd dX12_countGreater_41 ?_
        refine mm_istore (L' := [(4, .int (nI ((ct_th w k a b) + (1)))), (0, .ref (o)), (1, .int (nI (k))), (2, .int (nI (a))), (3, .int (nI (b)))]) dX12_countGreater_42 (by decide) rfl ?_
        have e : (ro_plain w a k || ro_rest w a k) = true := by simp_all
        refine mn_sub [1, 2, 3, 4, 0] rfl ?_
        exact K44 _ (by unfold ct_gr; rw [if_pos (c := b = a + 1) c13, e]; first | rfl | omega)
set_option maxRecDepth 100000 in
set_option maxHeartbeats 4000000 in
theorem tm_countItem {l : Launch} {D : va_G} {aa : Nat → ClassId} {b0 : Nat} {h : mm_H} {o : Nat} {F : Nat → Int32} {G : Nat → Int64} {A : Nat → Nat → Int32} {B : Nat → Nat → Int64} (ha : rm_at o F G A B h) {w : ro_w} {sg g : Nat} {T : Nat → Nat} (hx : cx_at F A w sg g T) {a b : Nat} (hab : a < b) (hb : b ≤ 24) : mm_V (zz_K l D aa b0) 4 yX12_countItem cX12_countItem 6 (some .int) 0 [(0, .ref (o)), (1, .int (nI (a))), (2, .int (nI (b)))] [] h 0 0 (fun r h' => h' = h ∧ r = some (.int (nI (ct_it w g T a b)))) := by
  have hw := hx.1
  have ht := hx.2.2.2.1
  have hg := hx.2.2.1.2
  have w0 : tb_w T 0 g a b ≤ 3000 := tb_le ht (by omega) (by omega)
  have w1 : tb_w T 1 g a b ≤ 3000 := tb_le ht (by omega) (by omega)
  have lp : ∀ (n k acc : Nat), g - k ≤ n → k ≤ g → acc ≤ 6000 + 578 * k → acc + ct_gs w a b (g - k) k = tb_w T 0 g a b + tb_w T 1 g a b + ct_gs w a b g 0 → mm_V (zz_K l D aa b0) 4 yX12_countItem cX12_countItem 6 (some .int) 29 [(0, .ref (o)), (1, .int (nI (a))), (2, .int (nI (b))), (3, .long (lN (acc))), (5, .int (nI (k)))] [] h 0 0 (fun r h' => h' = h ∧ r = some (.int (nI (ct_it w g T a b)))) := by
    intro n
    induction n with
    | zero =>
      intro k acc hn hk hle hS
      refine mm_iload dX12_countItem_29 4 rfl ?_
      refine mm_aload_n dX12_countItem_31 rfl 0 rfl ?_
      refine rm_getI 13 dX12_countItem_32 ha zf_ground (by decide) rfl rfl ?_
      refine mn_top (u := .int (nI (g))) (congrArg Value.int ((hx.2.2.1.1))) ?_
      refine mn_icmp_ge (tgt := 56) dX12_countItem_35 (by decide) (by omega) (by omega) (fun c35 => ?_) (fun c35 => ?_)
      · rw [show g - k = 0 from by omega] at hS
        refine mm_lload_n dX12_countItem_56 rfl 3 rfl ?_
        refine rm_callSr (As := [.long (lN (acc))]) (rest := []) (d2 := 0) dX12_countItem_57 zc_cap rfl rfl (Nat.le_of_ble_eq_true rfl) (Nat.le_of_ble_eq_true rfl) (by decide) (tm_cap (n := acc) (by omega)) ?_
        exact mm_iret dX12_countItem_60 rfl (⟨rfl, by unfold ct_it; rw [← hS]; rfl⟩)
      · omega
    | succ n ih =>
      intro k acc hn hk hle hS
      refine mm_iload dX12_countItem_29 4 rfl ?_
      refine mm_aload_n dX12_countItem_31 rfl 0 rfl ?_
      refine rm_getI 13 dX12_countItem_32 ha zf_ground (by decide) rfl rfl ?_
      refine mn_top (u := .int (nI (g))) (congrArg Value.int ((hx.2.2.1.1))) ?_
      refine mn_icmp_ge (tgt := 56) dX12_countItem_35 (by decide) (by omega) (by omega) (fun c35 => ?_) (fun c35 => ?_)
      · rw [show g - k = 0 from by omega] at hS
        refine mm_lload_n dX12_countItem_56 rfl 3 rfl ?_
        refine rm_callSr (As := [.long (lN (acc))]) (rest := []) (d2 := 0) dX12_countItem_57 zc_cap rfl rfl (Nat.le_of_ble_eq_true rfl) (Nat.le_of_ble_eq_true rfl) (by decide) (tm_cap (n := acc) (by omega)) ?_
        exact mm_iret dX12_countItem_60 rfl (⟨rfl, by unfold ct_it; rw [← hS]; rfl⟩)
      · rw [show g - k = (g - (k + 1)) + 1 from by omega] at hS
        have gb := ct_gr_le (w := w) (k := k) (a := a) hb
        refine mm_lload_n dX12_countItem_38 rfl 3 rfl ?_
        refine mm_aload_n dX12_countItem_39 rfl 0 rfl ?_
        refine mm_iload dX12_countItem_40 4 rfl ?_
        refine mm_iload_n dX12_countItem_42 rfl 1 rfl ?_
        refine mm_iload_n dX12_countItem_43 rfl 2 rfl ?_
        refine rm_callVr (As := [.int (nI (k)), .int (nI (a)), .int (nI (b))]) (rest := [.long (lN (acc))]) (d2 := 3) dX12_countItem_44 ha zc_countGreater zc_countGreater_s rfl rfl rfl (Nat.le_of_ble_eq_true rfl) (Nat.le_of_ble_eq_true rfl) (by decide) (tm_countGreater ha hx (by omega) hab hb) ?_
        refine mn_i2l dX12_countItem_47 (by omega) ?_
        refine mn_ladd dX12_countItem_48 ?_
        refine mm_lstore_n (L' := [(3, .long (lN ((acc) + (ct_gr w k a b)))), (0, .ref (o)), (1, .int (nI (a))), (2, .int (nI (b))), (5, .int (nI (k)))]) dX12_countItem_49 rfl (by decide) rfl ?_
        refine mn_iinc (m := 1) (L' := [(5, .int (nI (k + 1))), (3, .long (lN ((acc) + (ct_gr w k a b)))), (0, .ref (o)), (1, .int (nI (a))), (2, .int (nI (b)))]) dX12_countItem_50 (by decide) 4 rfl (by decide) rfl ?_
        refine mm_goto (tgt := 29) dX12_countItem_53 (by decide) ?_
        refine mn_sub [2, 3, 4, 1, 0] rfl ?_
        exact ih (k + 1) _ (by omega) (by omega) (by omega) (by rw [← hS]; show _ = acc + (ct_gr w k a b + ct_gs w a b (g - (k + 1)) (k + 1)); omega)
  refine mm_aload_n dX12_countItem_0 rfl 0 rfl ?_
  refine mm_iconst (v := nI 0) dX12_countItem_1 (by decide) ?_
  refine mm_aload_n dX12_countItem_2 rfl 0 rfl ?_
  refine rm_getI 13 dX12_countItem_3 ha zf_ground (by decide) rfl rfl ?_
  refine mn_top (u := .int (nI (g))) (congrArg Value.int ((hx.2.2.1.1))) ?_
  refine mm_iload_n dX12_countItem_6 rfl 1 rfl ?_
  refine mm_iload_n dX12_countItem_7 rfl 2 rfl ?_
  refine rm_callVr (As := [.int (nI (0)), .int (nI (g)), .int (nI (a)), .int (nI (b))]) (rest := []) (d2 := 0) dX12_countItem_8 ha zc_waysOf zc_waysOf_s rfl rfl rfl (Nat.le_of_ble_eq_true rfl) (Nat.le_of_ble_eq_true rfl) (by decide) (tm_waysOf ha ht (by omega) (by omega) (by omega) (by omega)) ?_
  have wb8 : tb_w T (0) (g) (a) (b) ≤ 3000 := tb_le ht (by omega) (by omega)
  refine mn_i2l dX12_countItem_11 (by omega) ?_
  refine mm_aload_n dX12_countItem_12 rfl 0 rfl ?_
  refine mm_iconst (v := nI 1) dX12_countItem_13 (by decide) ?_
  refine mm_aload_n dX12_countItem_14 rfl 0 rfl ?_
  refine rm_getI 13 dX12_countItem_15 ha zf_ground (by decide) rfl rfl ?_
  refine mn_top (u := .int (nI (g))) (congrArg Value.int ((hx.2.2.1.1))) ?_
  refine mm_iload_n dX12_countItem_18 rfl 1 rfl ?_
  refine mm_iload_n dX12_countItem_19 rfl 2 rfl ?_
  refine rm_callVr (As := [.int (nI (1)), .int (nI (g)), .int (nI (a)), .int (nI (b))]) (rest := [.long (lN (tb_w T (0) (g) (a) (b)))]) (d2 := 0) dX12_countItem_20 ha zc_waysOf zc_waysOf_s rfl rfl rfl (Nat.le_of_ble_eq_true rfl) (Nat.le_of_ble_eq_true rfl) (by decide) (tm_waysOf ha ht (by omega) (by omega) (by omega) (by omega)) ?_
  have wb20 : tb_w T (1) (g) (a) (b) ≤ 3000 := tb_le ht (by omega) (by omega)
  refine mn_i2l dX12_countItem_23 (by omega) ?_
  refine mn_ladd dX12_countItem_24 ?_
  refine mm_lstore_n (L' := [(3, .long (lN ((tb_w T (0) (g) (a) (b)) + (tb_w T (1) (g) (a) (b))))), (0, .ref (o)), (1, .int (nI (a))), (2, .int (nI (b)))]) dX12_countItem_25 rfl (by decide) rfl ?_
  refine mm_iconst (v := nI 0) dX12_countItem_26 (by decide) ?_
  refine mm_istore (L' := [(5, .int (nI (0))), (3, .long (lN ((tb_w T (0) (g) (a) (b)) + (tb_w T (1) (g) (a) (b))))), (0, .ref (o)), (1, .int (nI (a))), (2, .int (nI (b)))]) dX12_countItem_27 (by decide) rfl ?_
  refine mn_sub [2, 3, 4, 1, 0] rfl ?_
  exact lp g 0 _ (by omega) (by omega) (by omega) rfl
