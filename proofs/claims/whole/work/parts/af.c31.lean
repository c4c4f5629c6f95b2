/-! the class: ligatures -/
theorem bt_inj {a b : Bool} (h : nI (Bool.toNat a) = nI (Bool.toNat b)) : a = b := by
  cases a <;> cases b <;> first | rfl | exact absurd h (by decide)
set_option maxRecDepth 100000 in
set_option maxHeartbeats 4000000 in
theorem cl_pitchOf {l : Launch} {D : va_G} {aa : Nat → ClassId} {b0 : Nat} {h : mm_H} {x : Int64} {k : Nat}  : mm_V (zz_K l D aa b0) 0 yX11_pitchOf cX11_pitchOf 3 (some .int) 0 [(0, .long (x)), (2, .int (nI (k)))] [] h 0 0 (fun rv h' => h' = h ∧ rv = some (.int (ptc x k))) := by
  refine mm_lload_n dX11_pitchOf_0 rfl 0 rfl ?_
  refine mm_bipush (v := nI 8) dX11_pitchOf_1 (by decide) ?_
  refine mm_iload_n dX11_pitchOf_3 rfl 1 rfl ?_
  refine mn_imul dX11_pitchOf_4 ?_
  refine mm_lshr dX11_pitchOf_5 ?_
  refine mm_l2i dX11_pitchOf_6 ?_
  refine mm_i2b dX11_pitchOf_7 ?_
  exact mm_iret dX11_pitchOf_8 rfl ⟨rfl, rfl⟩
set_option maxRecDepth 100000 in
set_option maxHeartbeats 4000000 in
theorem cl_hasP {l : Launch} {D : va_G} {aa : Nat → ClassId} {b0 : Nat} {h : mm_H} {x : Int64} {n : Nat} (hn8 : n ≤ 8) (hall : lgP x n) : mm_V (zz_K l D aa b0) 1 yX11_hasPitches cX11_hasPitches 4 (some .boolean) 0 [(0, .int (nI (n))), (1, .long (x))] [] h 0 0 (fun rv h' => h' = h ∧ rv = some (.int (nI 1))) := by
  have lp : ∀ (m k : Nat), k + m = n → mm_V (zz_K l D aa b0) 1 yX11_hasPitches cX11_hasPitches 4 (some .boolean) 2 [(3, .int (nI (k))), (0, .int (nI (n))), (1, .long (x))] [] h 0 0 (fun rv h' => h' = h ∧ rv = some (.int (nI 1))) := by
    intro m
    induction m with
    | zero =>
      intro k hk
      refine mm_iload_n dX11_hasPitches_2 rfl 0 rfl ?_
      refine mm_iload_n dX11_hasPitches_3 rfl 1 rfl ?_
      refine mn_icmp_ge (tgt := 26) dX11_hasPitches_4 (by decide) (by omega) (by omega) (fun c4 => ?_) (fun c4 => ?_)
      · refine mm_iconst (v := nI 1) dX11_hasPitches_26 (by decide) ?_
        exact mm_zret dX11_hasPitches_27 rfl (by decide) (⟨rfl, rfl⟩)
      · omega
    | succ m ih =>
      intro k hk
      refine mm_iload_n dX11_hasPitches_2 rfl 0 rfl ?_
      refine mm_iload_n dX11_hasPitches_3 rfl 1 rfl ?_
      refine mn_icmp_ge (tgt := 26) dX11_hasPitches_4 (by decide) (by omega) (by omega) (fun c4 => ?_) (fun c4 => ?_)
      · omega
      · refine mm_lload_n dX11_hasPitches_7 rfl 2 rfl ?_
        refine mm_iload_n dX11_hasPitches_8 rfl 0 rfl ?_
        refine rm_callSr (As := [.long (x), .int (nI (k))]) (rest := []) (d2 := 0) dX11_hasPitches_9 zc_X11_98 rfl rfl (Nat.le_of_ble_eq_true rfl) (Nat.le_of_ble_eq_true rfl) (by decide) (cl_pitchOf (x := x) (k := k)) ?_
        refine rm_callSr (As := [.int (ptc x (k))]) (rest := []) (d2 := 0) dX11_hasPitches_12 zc_X11_63 rfl rfl (Nat.le_of_ble_eq_true rfl) (Nat.le_of_ble_eq_true rfl) (by decide) (ck_isPitchI (x := ptc x k)) ?_
        refine mn_ifB_ne (tgt := 20) dX11_hasPitches_15 (by decide) (fun c15 => ?_) (fun c15 => ?_)
        · refine mn_iinc (m := 1) (L' := [(3, .int (nI (k + 1))), (0, .int (nI (n))), (1, .long (x))]) dX11_hasPitches_20 (by decide) 0 rfl (by decide) rfl ?_
          refine mm_goto (tgt := 2) dX11_hasPitches_23 (by decide) ?_
          refine mn_sub [0, 1, 2] rfl ?_
          exact ih (k + 1) (by omega)
        · exact absurd (hall k (by omega)) (of_decide_eq_false c15)
  refine mm_iconst (v := nI 0) dX11_hasPitches_0 (by decide) ?_
  refine mm_istore_n (L' := [(3, .int (nI (0))), (0, .int (nI (n))), (1, .long (x))]) dX11_hasPitches_1 rfl (by decide) rfl ?_
  refine mn_sub [0, 1, 2] rfl ?_
  exact lp n 0 (by omega)
set_option maxRecDepth 100000 in
set_option maxHeartbeats 4000000 in
theorem cl_hasPN {l : Launch} {D : va_G} {aa : Nat → ClassId} {b0 : Nat} {h : mm_H} {x : Int64} {n : Nat} (hn8 : n ≤ 8) (hno : ¬ lgP x n) : mm_V (zz_K l D aa b0) 1 yX11_hasPitches cX11_hasPitches 4 (some .boolean) 0 [(0, .int (nI (n))), (1, .long (x))] [] h 0 0 (fun rv h' => h' = h ∧ rv = some (.int (nI 0))) := by
  have lp : ∀ (m k : Nat), k + m = n → (∀ j, j < k → (-40) ≤ ptc x j ∧ ptc x j ≤ nI 40) → mm_V (zz_K l D aa b0) 1 yX11_hasPitches cX11_hasPitches 4 (some .boolean) 2 [(3, .int (nI (k))), (0, .int (nI (n))), (1, .long (x))] [] h 0 0 (fun rv h' => h' = h ∧ rv = some (.int (nI 0))) := by
    intro m
    induction m with
    | zero =>
      intro k hk hall
      refine mm_iload_n dX11_hasPitches_2 rfl 0 rfl ?_
      refine mm_iload_n dX11_hasPitches_3 rfl 1 rfl ?_
      refine mn_icmp_ge (tgt := 26) dX11_hasPitches_4 (by decide) (by omega) (by omega) (fun c4 => ?_) (fun c4 => ?_)
      · exact absurd (fun j hj => hall j (by omega)) hno
      · omega
    | succ m ih =>
      intro k hk hall
      refine mm_iload_n dX11_hasPitches_2 rfl 0 rfl ?_
      refine mm_iload_n dX11_hasPitches_3 rfl 1 rfl ?_
      refine mn_icmp_ge (tgt := 26) dX11_hasPitches_4 (by decide) (by omega) (by omega) (fun c4 => ?_) (fun c4 => ?_)
      · omega
      · refine mm_lload_n dX11_hasPitches_7 rfl 2 rfl ?_
        refine mm_iload_n dX11_hasPitches_8 rfl 0 rfl ?_
        refine rm_callSr (As := [.long (x), .int (nI (k))]) (rest := []) (d2 := 0) dX11_hasPitches_9 zc_X11_98 rfl rfl (Nat.le_of_ble_eq_true rfl) (Nat.le_of_ble_eq_true rfl) (by decide) (cl_pitchOf (x := x) (k := k)) ?_
        refine rm_callSr (As := [.int (ptc x (k))]) (rest := []) (d2 := 0) dX11_hasPitches_12 zc_X11_63 rfl rfl (Nat.le_of_ble_eq_true rfl) (Nat.le_of_ble_eq_true rfl) (by decide) (ck_isPitchI (x := ptc x k)) ?_
        refine mn_ifB_ne (tgt := 20) dX11_hasPitches_15 (by decide) (fun c15 => ?_) (fun c15 => ?_)
        · refine mn_iinc (m := 1) (L' := [(3, .int (nI (k + 1))), (0, .int (nI (n))), (1, .long (x))]) dX11_hasPitches_20 (by decide) 0 rfl (by decide) rfl ?_
          refine mm_goto (tgt := 2) dX11_hasPitches_23 (by decide) ?_
          refine mn_sub [0, 1, 2] rfl ?_
          refine ih (k + 1) (by omega) (fun j hj => ?_)
          by_cases e : j = k
          · rw [e]; exact of_decide_eq_true c15
          · exact hall j (by omega)
        · refine mm_iconst (v := nI 0) dX11_hasPitches_18 (by decide) ?_
          exact mm_zret dX11_hasPitches_19 rfl (by decide) (⟨rfl, rfl⟩)
  refine mm_iconst (v := nI 0) dX11_hasPitches_0 (by decide) ?_
  refine mm_istore_n (L' := [(3, .int (nI (0))), (0, .int (nI (n))), (1, .long (x))]) dX11_hasPitches_1 rfl (by decide) rfl ?_
  refine mn_sub [0, 1, 2] rfl ?_
  exact lp n 0 (by omega) (fun j hj => by omega)
set_option maxRecDepth 100000 in
set_option maxHeartbeats 4000000 in
theorem cl_falls {l : Launch} {D : va_G} {aa : Nat → ClassId} {b0 : Nat} {h : mm_H} {x : Int64} {i : Nat} (hi : 1 ≤ i ∧ i < 100) : mm_V (zz_K l D aa b0) 1 yX11_falls cX11_falls 3 (some .boolean) 0 [(0, .long (x)), (2, .int (nI (i)))] [] h 0 0 (fun rv h' => h' = h ∧ rv = some (.int (nI (Bool.toNat (lgF x i))))) := by
  refine mm_lload_n dX11_falls_0 rfl 0 rfl ?_
  refine mm_iload_n dX11_falls_1 rfl 1 rfl ?_
  refine rm_callSr (As := [.long (x), .int (nI (i))]) (rest := []) (d2 := 0) dX11_falls_2 zc_X11_98 rfl rfl (Nat.le_of_ble_eq_true rfl) (Nat.le_of_ble_eq_true rfl) (by decide) (cl_pitchOf (x := x) (k := i)) ?_
  refine mm_lload_n dX11_falls_5 rfl 0 rfl ?_
  refine mm_iload_n dX11_falls_6 rfl 1 rfl ?_
  refine mm_iconst (v := nI 1) dX11_falls_7 (by decide) ?_
  refine mn_isub dX11_falls_8 (by omega) ?_
  refine rm_callSr (As := [.long (x), .int (nI ((i) - (1)))]) (rest := [.int (ptc x (i))]) (d2 := 0) dX11_falls_9 zc_X11_98 rfl rfl (Nat.le_of_ble_eq_true rfl) (Nat.le_of_ble_eq_true rfl) (by decide) (cl_pitchOf (x := x) (k := (i) - (1))) ?_
  refine mm_icmp_ge (tgt := 19) dX11_falls_12 (by decide) (fun c12 => ?_) (fun c12 => ?_)
  · refine mm_iconst (v := nI 0) dX11_falls_19 (by decide) ?_
    exact mm_zret dX11_falls_20 rfl (by decide) (⟨rfl, by unfold lgF; rw [decide_eq_false (fun q => i32_nle q c12)]; rfl⟩)
  · refine mm_iconst (v := nI 1) dX11_falls_15 (by decide) ?_
    refine mm_goto (tgt := 20) dX11_falls_16 (by decide) ?_
    exact mm_zret dX11_falls_20 rfl (by decide) (⟨rfl, by unfold lgF; rw [decide_eq_true (Int32.not_le.mp c12)]; rfl⟩)
set_option maxRecDepth 100000 in
set_option maxHeartbeats 4000000 in
theorem cl_shape {l : Launch} {D : va_G} {aa : Nat → ClassId} {b0 : Nat} {h : mm_H} {x : Int64} {n sh : Nat} (hn : 2 ≤ n ∧ n ≤ 8) (hsh : sh < 16) (hS : lgS sh n x) : mm_V (zz_K l D aa b0) 2 yX11_isShape cX11_isShape 6 (some .boolean) 0 [(0, .int (nI (sh))), (1, .int (nI (n))), (2, .long (x))] [] h 0 0 (fun rv h' => h' = h ∧ rv = some (.int (nI 1))) := by
  have en : ∀ k : Nat, lgD x n → mm_V (zz_K l D aa b0) 2 yX11_isShape cX11_isShape 6 (some .boolean) 34 [(4, .int (nI (k))), (0, .int (nI (sh))), (1, .int (nI (n))), (2, .long (x))] [] h 0 0 (fun rv h' => h' = h ∧ rv = some (.int (nI 1))) := by
    intro k hD
    refine mm_iload_n dX11_isShape_34 rfl 1 rfl ?_
    refine mm_iconst (v := nI 3) dX11_isShape_35 (by decide) ?_
    refine mn_iand dX11_isShape_36 ?_
    refine mn_top (u := .int (nI (sh % 4))) (congrArg Value.int (by rw [and_3])) ?_
    refine mm_iconst (v := nI 3) dX11_isShape_37 (by decide) ?_
    refine mn_icmp_ne (tgt := 45) dX11_isShape_38 (by decide) (by omega) (by omega) (fun c38 => ?_) (fun c38 => ?_)
    · refine mm_iconst (v := nI 0) dX11_isShape_45 (by decide) ?_
      refine mm_istore (L' := [(4, .int (nI (0))), (0, .int (nI (sh))), (1, .int (nI (n))), (2, .long (x))]) dX11_isShape_46 (by decide) rfl ?_
      refine mm_iload_n dX11_isShape_48 rfl 1 rfl ?_
      refine mm_iconst (v := nI 4) dX11_isShape_49 (by decide) ?_
      refine mn_iand dX11_isShape_50 ?_
      refine mn_top (u := .int (nI (4 * (sh / 4 % 2)))) (congrArg Value.int (by rw [and_4])) ?_
      refine mn_if_eq (tgt := 68) dX11_isShape_51 (by decide) (by omega) (fun c51 => ?_) (fun c51 => ?_)
      · refine mm_iconst (v := nI 0) dX11_isShape_68 (by decide) ?_
        refine mm_istore (L' := [(5, .int (nI (0))), (4, .int (nI (0))), (0, .int (nI (sh))), (1, .int (nI (n))), (2, .long (x))]) dX11_isShape_69 (by decide) rfl ?_
        refine mm_iload dX11_isShape_71 1 rfl ?_
        refine mn_if_ne (tgt := 85) dX11_isShape_73 (by decide) (by decide) (fun q => absurd q (by decide)) (fun _ => ?_)
        refine mm_iload dX11_isShape_76 0 rfl ?_
        refine mn_if_ne (tgt := 85) dX11_isShape_78 (by decide) (by decide) (fun q => absurd q (by decide)) (fun _ => ?_)
        refine mm_iconst (v := nI 1) dX11_isShape_81 (by decide) ?_
        refine mm_goto (tgt := 86) dX11_isShape_82 (by decide) ?_
        exact mm_zret dX11_isShape_86 rfl (by decide) (⟨rfl, rfl⟩)
      · refine mm_lload_n dX11_isShape_54 rfl 3 rfl ?_
        refine mm_iload_n dX11_isShape_55 rfl 2 rfl ?_
        refine mm_iconst (v := nI 1) dX11_isShape_56 (by decide) ?_
        refine mn_isub dX11_isShape_57 (by omega) ?_
        refine rm_callSr (As := [.long (x), .int (nI ((n) - (1)))]) (rest := []) (d2 := 1) dX11_isShape_58 zc_X11_250 rfl rfl (Nat.le_of_ble_eq_true rfl) (Nat.le_of_ble_eq_true rfl) (by decide) (cl_falls (x := x) (i := n - 1) (by omega)) ?_
        refine mn_ifB_ne (tgt := 68) dX11_isShape_61 (by decide) (fun c61 => ?_) (fun c61 => ?_)
        · refine mm_iconst (v := nI 0) dX11_isShape_68 (by decide) ?_
          refine mm_istore (L' := [(5, .int (nI (0))), (4, .int (nI (0))), (0, .int (nI (sh))), (1, .int (nI (n))), (2, .long (x))]) dX11_isShape_69 (by decide) rfl ?_
          refine mm_iload dX11_isShape_71 1 rfl ?_
          refine mn_if_ne (tgt := 85) dX11_isShape_73 (by decide) (by decide) (fun q => absurd q (by decide)) (fun _ => ?_)
          refine mm_iload dX11_isShape_76 0 rfl ?_
          refine mn_if_ne (tgt := 85) dX11_isShape_78 (by decide) (by decide) (fun q => absurd q (by decide)) (fun _ => ?_)
          refine mm_iconst (v := nI 1) dX11_isShape_81 (by decide) ?_
          refine mm_goto (tgt := 86) dX11_isShape_82 (by decide) ?_
          exact mm_zret dX11_isShape_86 rfl (by decide) (⟨rfl, rfl⟩)
        · refine mm_iconst (v := nI 1) dX11_isShape_64 (by decide) ?_
          refine mm_goto (tgt := 69) dX11_isShape_65 (by decide) ?_
          refine mm_istore (L' := [(5, .int (nI (1))), (4, .int (nI (0))), (0, .int (nI (sh))), (1, .int (nI (n))), (2, .long (x))]) dX11_isShape_69 (by decide) rfl ?_
          refine mm_iload dX11_isShape_71 1 rfl ?_
          refine mn_if_ne (tgt := 85) dX11_isShape_73 (by decide) (by decide) (fun q => absurd q (by decide)) (fun _ => ?_)
          refine mm_iload dX11_isShape_76 0 rfl ?_
          refine mn_if_ne (tgt := 85) dX11_isShape_78 (by decide) (by decide) (fun _ => ?_) (fun q => absurd q (by decide))
          refine mm_iconst (v := nI 0) dX11_isShape_85 (by decide) ?_
          exfalso
          exact hS.2.2 ⟨by omega, c61⟩
    · refine mm_iconst (v := nI 1) dX11_isShape_41 (by decide) ?_
      refine mm_goto (tgt := 46) dX11_isShape_42 (by decide) ?_
      refine mm_istore (L' := [(4, .int (nI (1))), (0, .int (nI (sh))), (1, .int (nI (n))), (2, .long (x))]) dX11_isShape_46 (by decide) rfl ?_
      refine mm_iload_n dX11_isShape_48 rfl 1 rfl ?_
      refine mm_iconst (v := nI 4) dX11_isShape_49 (by decide) ?_
      refine mn_iand dX11_isShape_50 ?_
      refine mn_top (u := .int (nI (4 * (sh / 4 % 2)))) (congrArg Value.int (by rw [and_4])) ?_
      refine mn_if_eq (tgt := 68) dX11_isShape_51 (by decide) (by omega) (fun c51 => ?_) (fun c51 => ?_)
      · refine mm_iconst (v := nI 0) dX11_isShape_68 (by decide) ?_
        refine mm_istore (L' := [(5, .int (nI (0))), (4, .int (nI (1))), (0, .int (nI (sh))), (1, .int (nI (n))), (2, .long (x))]) dX11_isShape_69 (by decide) rfl ?_
        refine mm_iload dX11_isShape_71 1 rfl ?_
        refine mn_if_ne (tgt := 85) dX11_isShape_73 (by decide) (by decide) (fun _ => ?_) (fun q => absurd q (by decide))
        refine mm_iconst (v := nI 0) dX11_isShape_85 (by decide) ?_
        exfalso
        exact hS.2.1 (by omega)
      · refine mm_lload_n dX11_isShape_54 rfl 3 rfl ?_
        refine mm_iload_n dX11_isShape_55 rfl 2 rfl ?_
        refine mm_iconst (v := nI 1) dX11_isShape_56 (by decide) ?_
        refine mn_isub dX11_isShape_57 (by omega) ?_
        refine rm_callSr (As := [.long (x), .int (nI ((n) - (1)))]) (rest := []) (d2 := 1) dX11_isShape_58 zc_X11_250 rfl rfl (Nat.le_of_ble_eq_true rfl) (Nat.le_of_ble_eq_true rfl) (by decide) (cl_falls (x := x) (i := n - 1) (by omega)) ?_
        refine mn_ifB_ne (tgt := 68) dX11_isShape_61 (by decide) (fun c61 => ?_) (fun c61 => ?_)
        · refine mm_iconst (v := nI 0) dX11_isShape_68 (by decide) ?_
          refine mm_istore (L' := [(5, .int (nI (0))), (4, .int (nI (1))), (0, .int (nI (sh))), (1, .int (nI (n))), (2, .long (x))]) dX11_isShape_69 (by decide) rfl ?_
          refine mm_iload dX11_isShape_71 1 rfl ?_
          refine mn_if_ne (tgt := 85) dX11_isShape_73 (by decide) (by decide) (fun _ => ?_) (fun q => absurd q (by decide))
          refine mm_iconst (v := nI 0) dX11_isShape_85 (by decide) ?_
          exfalso
          exact hS.2.1 (by omega)
        · refine mm_iconst (v := nI 1) dX11_isShape_64 (by decide) ?_
          refine mm_goto (tgt := 69) dX11_isShape_65 (by decide) ?_
          refine mm_istore (L' := [(5, .int (nI (1))), (4, .int (nI (1))), (0, .int (nI (sh))), (1, .int (nI (n))), (2, .long (x))]) dX11_isShape_69 (by decide) rfl ?_
          refine mm_iload dX11_isShape_71 1 rfl ?_
          refine mn_if_ne (tgt := 85) dX11_isShape_73 (by decide) (by decide) (fun _ => ?_) (fun q => absurd q (by decide))
          refine mm_iconst (v := nI 0) dX11_isShape_85 (by decide) ?_
          exfalso
          exact hS.2.1 (by omega)
  have lp : ∀ (m k : Nat), 1 ≤ k → k + m = n → (∀ j, 1 ≤ j → j < k → ptc x j ≠ ptc x (j - 1)) → mm_V (zz_K l D aa b0) 2 yX11_isShape cX11_isShape 6 (some .boolean) 3 [(4, .int (nI (k))), (0, .int (nI (sh))), (1, .int (nI (n))), (2, .long (x))] [] h 0 0 (fun rv h' => h' = h ∧ rv = some (.int (nI 1))) := by
    intro m
    induction m with
    | zero =>
      intro k hk1 hk hall
      refine mm_iload dX11_isShape_3 0 rfl ?_
      refine mm_iload_n dX11_isShape_5 rfl 2 rfl ?_
      refine mn_icmp_ge (tgt := 34) dX11_isShape_6 (by decide) (by omega) (by omega) (fun c6 => ?_) (fun c6 => ?_)
      · exact en k (fun j h1 h2 => hall j h1 (by omega))
      · omega
    | succ m ih =>
      intro k hk1 hk hall
      refine mm_iload dX11_isShape_3 0 rfl ?_
      refine mm_iload_n dX11_isShape_5 rfl 2 rfl ?_
      refine mn_icmp_ge (tgt := 34) dX11_isShape_6 (by decide) (by omega) (by omega) (fun c6 => ?_) (fun c6 => ?_)
      · omega
      · refine mm_lload_n dX11_isShape_9 rfl 3 rfl ?_
        refine mm_iload dX11_isShape_10 0 rfl ?_
        refine rm_callSr (As := [.long (x), .int (nI (k))]) (rest := []) (d2 := 0) dX11_isShape_12 zc_X11_98 rfl rfl (Nat.le_of_ble_eq_true rfl) (Nat.le_of_ble_eq_true rfl) (by decide) (cl_pitchOf (x := x) (k := k)) ?_
        refine mm_lload_n dX11_isShape_15 rfl 3 rfl ?_
        refine mm_iload dX11_isShape_16 0 rfl ?_
        refine mm_iconst (v := nI 1) dX11_isShape_18 (by decide) ?_
        refine mn_isub dX11_isShape_19 (by omega) ?_
        refine rm_callSr (As := [.long (x), .int (nI ((k) - (1)))]) (rest := [.int (ptc x (k))]) (d2 := 0) dX11_isShape_20 zc_X11_98 rfl rfl (Nat.le_of_ble_eq_true rfl) (Nat.le_of_ble_eq_true rfl) (by decide) (cl_pitchOf (x := x) (k := (k) - (1))) ?_
        refine mm_icmp_ne (tgt := 28) dX11_isShape_23 (by decide) (fun c23 => ?_) (fun c23 => ?_)
        · refine mn_iinc (m := 1) (L' := [(4, .int (nI (k + 1))), (0, .int (nI (sh))), (1, .int (nI (n))), (2, .long (x))]) dX11_isShape_28 (by decide) 0 rfl (by decide) rfl ?_
          refine mm_goto (tgt := 3) dX11_isShape_31 (by decide) ?_
          refine mn_sub [0, 1, 2, 3] rfl ?_
          refine ih (k + 1) (by omega) (by omega) (fun j h1 h2 => ?_)
          by_cases e : j = k
          · rw [e]; exact c23
          · exact hall j h1 (by omega)
        · exact absurd c23 (hS.1 k hk1 (by omega))
  refine mm_iconst (v := nI 1) dX11_isShape_0 (by decide) ?_
  refine mm_istore (L' := [(4, .int (nI (1))), (0, .int (nI (sh))), (1, .int (nI (n))), (2, .long (x))]) dX11_isShape_1 (by decide) rfl ?_
  refine mn_sub [0, 1, 2, 3] rfl ?_
  exact lp (n - 1) 1 (by omega) (by omega) (fun j h1 h2 => by omega)
set_option maxRecDepth 100000 in
set_option maxHeartbeats 4000000 in
theorem cl_shapeN {l : Launch} {D : va_G} {aa : Nat → ClassId} {b0 : Nat} {h : mm_H} {x : Int64} {n sh : Nat} (hn : 2 ≤ n ∧ n ≤ 8) (hsh : sh < 16) (hS : ¬ lgS sh n x) : mm_V (zz_K l D aa b0) 2 yX11_isShape cX11_isShape 6 (some .boolean) 0 [(0, .int (nI (sh))), (1, .int (nI (n))), (2, .long (x))] [] h 0 0 (fun rv h' => h' = h ∧ rv = some (.int (nI 0))) := by
  have en : ∀ k : Nat, lgD x n → mm_V (zz_K l D aa b0) 2 yX11_isShape cX11_isShape 6 (some .boolean) 34 [(4, .int (nI (k))), (0, .int (nI (sh))), (1, .int (nI (n))), (2, .long (x))] [] h 0 0 (fun rv h' => h' = h ∧ rv = some (.int (nI 0))) := by
    intro k hD
    refine mm_iload_n dX11_isShape_34 rfl 1 rfl ?_
    refine mm_iconst (v := nI 3) dX11_isShape_35 (by decide) ?_
    refine mn_iand dX11_isShape_36 ?_
    refine mn_top (u := .int (nI (sh % 4))) (congrArg Value.int (by rw [and_3])) ?_
    refine mm_iconst (v := nI 3) dX11_isShape_37 (by decide) ?_
    refine mn_icmp_ne (tgt := 45) dX11_isShape_38 (by decide) (by omega) (by omega) (fun c38 => ?_) (fun c38 => ?_)
    · refine mm_iconst (v := nI 0) dX11_isShape_45 (by decide) ?_
      refine mm_istore (L' := [(4, .int (nI (0))), (0, .int (nI (sh))), (1, .int (nI (n))), (2, .long (x))]) dX11_isShape_46 (by decide) rfl ?_
      refine mm_iload_n dX11_isShape_48 rfl 1 rfl ?_
      refine mm_iconst (v := nI 4) dX11_isShape_49 (by decide) ?_
      refine mn_iand dX11_isShape_50 ?_
      refine mn_top (u := .int (nI (4 * (sh / 4 % 2)))) (congrArg Value.int (by rw [and_4])) ?_
      refine mn_if_eq (tgt := 68) dX11_isShape_51 (by decide) (by omega) (fun c51 => ?_) (fun c51 => ?_)
      · refine mm_iconst (v := nI 0) dX11_isShape_68 (by decide) ?_
        refine mm_istore (L' := [(5, .int (nI (0))), (4, .int (nI (0))), (0, .int (nI (sh))), (1, .int (nI (n))), (2, .long (x))]) dX11_isShape_69 (by decide) rfl ?_
        refine mm_iload dX11_isShape_71 1 rfl ?_
        refine mn_if_ne (tgt := 85) dX11_isShape_73 (by decide) (by decide) (fun q => absurd q (by decide)) (fun _ => ?_)
        refine mm_iload dX11_isShape_76 0 rfl ?_
        refine mn_if_ne (tgt := 85) dX11_isShape_78 (by decide) (by decide) (fun q => absurd q (by decide)) (fun _ => ?_)
        refine mm_iconst (v := nI 1) dX11_isShape_81 (by decide) ?_
        refine mm_goto (tgt := 86) dX11_isShape_82 (by decide) ?_
        exfalso
        exact hS ⟨hD, (by omega), (fun q => by omega)⟩
      · refine mm_lload_n dX11_isShape_54 rfl 3 rfl ?_
        refine mm_iload_n dX11_isShape_55 rfl 2 rfl ?_
        refine mm_iconst (v := nI 1) dX11_isShape_56 (by decide) ?_
        refine mn_isub dX11_isShape_57 (by omega) ?_
        refine rm_callSr (As := [.long (x), .int (nI ((n) - (1)))]) (rest := []) (d2 := 1) dX11_isShape_58 zc_X11_250 rfl rfl (Nat.le_of_ble_eq_true rfl) (Nat.le_of_ble_eq_true rfl) (by decide) (cl_falls (x := x) (i := n - 1) (by omega)) ?_
        refine mn_ifB_ne (tgt := 68) dX11_isShape_61 (by decide) (fun c61 => ?_) (fun c61 => ?_)
        · refine mm_iconst (v := nI 0) dX11_isShape_68 (by decide) ?_
          refine mm_istore (L' := [(5, .int (nI (0))), (4, .int (nI (0))), (0, .int (nI (sh))), (1, .int (nI (n))), (2, .long (x))]) dX11_isShape_69 (by decide) rfl ?_
          refine mm_iload dX11_isShape_71 1 rfl ?_
          refine mn_if_ne (tgt := 85) dX11_isShape_73 (by decide) (by decide) (fun q => absurd q (by decide)) (fun _ => ?_)
          refine mm_iload dX11_isShape_76 0 rfl ?_
          refine mn_if_ne (tgt := 85) dX11_isShape_78 (by decide) (by decide) (fun q => absurd q (by decide)) (fun _ => ?_)
          refine mm_iconst (v := nI 1) dX11_isShape_81 (by decide) ?_
          refine mm_goto (tgt := 86) dX11_isShape_82 (by decide) ?_
          exfalso
          exact hS ⟨hD, (by omega), (fun q => by rw [q.2] at c61; cases c61)⟩
        · refine mm_iconst (v := nI 1) dX11_isShape_64 (by decide) ?_
          refine mm_goto (tgt := 69) dX11_isShape_65 (by decide) ?_
          refine mm_istore (L' := [(5, .int (nI (1))), (4, .int (nI (0))), (0, .int (nI (sh))), (1, .int (nI (n))), (2, .long (x))]) dX11_isShape_69 (by decide) rfl ?_
          refine mm_iload dX11_isShape_71 1 rfl ?_
          refine mn_if_ne (tgt := 85) dX11_isShape_73 (by decide) (by decide) (fun q => absurd q (by decide)) (fun _ => ?_)
          refine mm_iload dX11_isShape_76 0 rfl ?_
          refine mn_if_ne (tgt := 85) dX11_isShape_78 (by decide) (by decide) (fun _ => ?_) (fun q => absurd q (by decide))
          refine mm_iconst (v := nI 0) dX11_isShape_85 (by decide) ?_
          exact mm_zret dX11_isShape_86 rfl (by decide) (⟨rfl, rfl⟩)
    · refine mm_iconst (v := nI 1) dX11_isShape_41 (by decide) ?_
      refine mm_goto (tgt := 46) dX11_isShape_42 (by decide) ?_
      refine mm_istore (L' := [(4, .int (nI (1))), (0, .int (nI (sh))), (1, .int (nI (n))), (2, .long (x))]) dX11_isShape_46 (by decide) rfl ?_
      refine mm_iload_n dX11_isShape_48 rfl 1 rfl ?_
      refine mm_iconst (v := nI 4) dX11_isShape_49 (by decide) ?_
      refine mn_iand dX11_isShape_50 ?_
      refine mn_top (u := .int (nI (4 * (sh / 4 % 2)))) (congrArg Value.int (by rw [and_4])) ?_
      refine mn_if_eq (tgt := 68) dX11_isShape_51 (by decide) (by omega) (fun c51 => ?_) (fun c51 => ?_)
      · refine mm_iconst (v := nI 0) dX11_isShape_68 (by decide) ?_
        refine mm_istore (L' := [(5, .int (nI (0))), (4, .int (nI (1))), (0, .int (nI (sh))), (1, .int (nI (n))), (2, .long (x))]) dX11_isShape_69 (by decide) rfl ?_
        refine mm_iload dX11_isShape_71 1 rfl ?_
        refine mn_if_ne (tgt := 85) dX11_isShape_73 (by decide) (by decide) (fun _ => ?_) (fun q => absurd q (by decide))
        refine mm_iconst (v := nI 0) dX11_isShape_85 (by decide) ?_
        exact mm_zret dX11_isShape_86 rfl (by decide) (⟨rfl, rfl⟩)
      · refine mm_lload_n dX11_isShape_54 rfl 3 rfl ?_
        refine mm_iload_n dX11_isShape_55 rfl 2 rfl ?_
        refine mm_iconst (v := nI 1) dX11_isShape_56 (by decide) ?_
        refine mn_isub dX11_isShape_57 (by omega) ?_
        refine rm_callSr (As := [.long (x), .int (nI ((n) - (1)))]) (rest := []) (d2 := 1) dX11_isShape_58 zc_X11_250 rfl rfl (Nat.le_of_ble_eq_true rfl) (Nat.le_of_ble_eq_true rfl) (by decide) (cl_falls (x := x) (i := n - 1) (by omega)) ?_
        refine mn_ifB_ne (tgt := 68) dX11_isShape_61 (by decide) (fun c61 => ?_) (fun c61 => ?_)
        · refine mm_iconst (v := nI 0) dX11_isShape_68 (by decide) ?_
          refine mm_istore (L' := [(5, .int (nI (0))), (4, .int (nI (1))), (0, .int (nI (sh))), (1, .int (nI (n))), (2, .long (x))]) dX11_isShape_69 (by decide) rfl ?_
          refine mm_iload dX11_isShape_71 1 rfl ?_
          refine mn_if_ne (tgt := 85) dX11_isShape_73 (by decide) (by decide) (fun _ => ?_) (fun q => absurd q (by decide))
          refine mm_iconst (v := nI 0) dX11_isShape_85 (by decide) ?_
          exact mm_zret dX11_isShape_86 rfl (by decide) (⟨rfl, rfl⟩)
        · refine mm_iconst (v := nI 1) dX11_isShape_64 (by decide) ?_
          refine mm_goto (tgt := 69) dX11_isShape_65 (by decide) ?_
          refine mm_istore (L' := [(5, .int (nI (1))), (4, .int (nI (1))), (0, .int (nI (sh))), (1, .int (nI (n))), (2, .long (x))]) dX11_isShape_69 (by decide) rfl ?_
          refine mm_iload dX11_isShape_71 1 rfl ?_
          refine mn_if_ne (tgt := 85) dX11_isShape_73 (by decide) (by decide) (fun _ => ?_) (fun q => absurd q (by decide))
          refine mm_iconst (v := nI 0) dX11_isShape_85 (by decide) ?_
          exact mm_zret dX11_isShape_86 rfl (by decide) (⟨rfl, rfl⟩)
  have lp : ∀ (m k : Nat), 1 ≤ k → k + m = n → (∀ j, 1 ≤ j → j < k → ptc x j ≠ ptc x (j - 1)) → mm_V (zz_K l D aa b0) 2 yX11_isShape cX11_isShape 6 (some .boolean) 3 [(4, .int (nI (k))), (0, .int (nI (sh))), (1, .int (nI (n))), (2, .long (x))] [] h 0 0 (fun rv h' => h' = h ∧ rv = some (.int (nI 0))) := by
    intro m
    induction m with
    | zero =>
      intro k hk1 hk hall
      refine mm_iload dX11_isShape_3 0 rfl ?_
      refine mm_iload_n dX11_isShape_5 rfl 2 rfl ?_
      refine mn_icmp_ge (tgt := 34) dX11_isShape_6 (by decide) (by omega) (by omega) (fun c6 => ?_) (fun c6 => ?_)
      · exact en k (fun j h1 h2 => hall j h1 (by omega))
      · omega
    | succ m ih =>
      intro k hk1 hk hall
      refine mm_iload dX11_isShape_3 0 rfl ?_
      refine mm_iload_n dX11_isShape_5 rfl 2 rfl ?_
      refine mn_icmp_ge (tgt := 34) dX11_isShape_6 (by decide) (by omega) (by omega) (fun c6 => ?_) (fun c6 => ?_)
      · omega
      · refine mm_lload_n dX11_isShape_9 rfl 3 rfl ?_
        refine mm_iload dX11_isShape_10 0 rfl ?_
        refine rm_callSr (As := [.long (x), .int (nI (k))]) (rest := []) (d2 := 0) dX11_isShape_12 zc_X11_98 rfl rfl (Nat.le_of_ble_eq_true rfl) (Nat.le_of_ble_eq_true rfl) (by decide) (cl_pitchOf (x := x) (k := k)) ?_
        refine mm_lload_n dX11_isShape_15 rfl 3 rfl ?_
        refine mm_iload dX11_isShape_16 0 rfl ?_
        refine mm_iconst (v := nI 1) dX11_isShape_18 (by decide) ?_
        refine mn_isub dX11_isShape_19 (by omega) ?_
        refine rm_callSr (As := [.long (x), .int (nI ((k) - (1)))]) (rest := [.int (ptc x (k))]) (d2 := 0) dX11_isShape_20 zc_X11_98 rfl rfl (Nat.le_of_ble_eq_true rfl) (Nat.le_of_ble_eq_true rfl) (by decide) (cl_pitchOf (x := x) (k := (k) - (1))) ?_
        refine mm_icmp_ne (tgt := 28) dX11_isShape_23 (by decide) (fun c23 => ?_) (fun c23 => ?_)
        · refine mn_iinc (m := 1) (L' := [(4, .int (nI (k + 1))), (0, .int (nI (sh))), (1, .int (nI (n))), (2, .long (x))]) dX11_isShape_28 (by decide) 0 rfl (by decide) rfl ?_
          refine mm_goto (tgt := 3) dX11_isShape_31 (by decide) ?_
          refine mn_sub [0, 1, 2, 3] rfl ?_
          refine ih (k + 1) (by omega) (by omega) (fun j h1 h2 => ?_)
          by_cases e : j = k
          · rw [e]; exact c23
          · exact hall j h1 (by omega)
        · refine mm_iconst (v := nI 0) dX11_isShape_26 (by decide) ?_
          exact mm_zret dX11_isShape_27 rfl (by decide) (⟨rfl, rfl⟩)
  refine mm_iconst (v := nI 1) dX11_isShape_0 (by decide) ?_
  refine mm_istore (L' := [(4, .int (nI (1))), (0, .int (nI (sh))), (1, .int (nI (n))), (2, .long (x))]) dX11_isShape_1 (by decide) rfl ?_
  refine mn_sub [0, 1, 2, 3] rfl ?_
  exact lp (n - 1) 1 (by omega) (by omega) (fun j h1 h2 => by omega)
set_option maxRecDepth 100000 in
set_option maxHeartbeats 4000000 in
theorem cl_kind {l : Launch} {D : va_G} {aa : Nat → ClassId} {b0 : Nat} {h : mm_H} {x : Int64} {n sh i : Nat} (hn : 2 ≤ n ∧ n ≤ 8) (hsh : sh < 16) (hi : i < n) : mm_V (zz_K l D aa b0) 2 yX11_kindInLigature cX11_kindInLigature 6 (some .int) 0 [(0, .int (nI (sh))), (1, .int (nI (n))), (2, .long (x)), (4, .int (nI (i)))] [] h 0 0 (fun rv h' => h' = h ∧ rv = some (.int (nI (lgK sh n x i)))) := by
  refine mm_iload_n dX11_kindInLigature_0 rfl 0 rfl ?_
  refine mm_iconst (v := nI 2) dX11_kindInLigature_1 (by decide) ?_
  refine mn_iand dX11_kindInLigature_2 ?_
  refine mn_top (u := .int (nI (2 * (sh / 2 % 2)))) (congrArg Value.int (by rw [and_2])) ?_
  refine mn_if_eq (tgt := 14) dX11_kindInLigature_3 (by decide) (by omega) (fun c3 => ?_) (fun c3 => ?_)
  · refine mm_iload dX11_kindInLigature_14 3 rfl ?_
    refine mn_if_ne (tgt := 48) dX11_kindInLigature_16 (by decide) (by omega) (fun c16 => ?_) (fun c16 => ?_)
    · refine mm_iload dX11_kindInLigature_48 3 rfl ?_
      refine mm_iload_n dX11_kindInLigature_50 rfl 1 rfl ?_
      refine mm_iconst (v := nI 1) dX11_kindInLigature_51 (by decide) ?_
      refine mn_isub dX11_kindInLigature_52 (by omega) ?_
      refine mn_icmp_ge (tgt := 58) dX11_kindInLigature_53 (by decide) (by omega) (by omega) (fun c53 => ?_) (fun c53 => ?_)
      · refine mm_iload_n dX11_kindInLigature_58 rfl 0 rfl ?_
        refine mm_bipush (v := nI 8) dX11_kindInLigature_59 (by decide) ?_
        refine mn_iand dX11_kindInLigature_61 ?_
        refine mn_top (u := .int (nI (8 * (sh / 8 % 2)))) (congrArg Value.int (by rw [and_8])) ?_
        refine mn_if_eq (tgt := 67) dX11_kindInLigature_62 (by decide) (by omega) (fun c62 => ?_) (fun c62 => ?_)
        · refine mm_iload_n dX11_kindInLigature_67 rfl 0 rfl ?_
          refine mm_iconst (v := nI 4) dX11_kindInLigature_68 (by decide) ?_
          refine mn_iand dX11_kindInLigature_69 ?_
          refine mn_top (u := .int (nI (4 * (sh / 4 % 2)))) (congrArg Value.int (by rw [and_4])) ?_
          refine mn_if_ne (tgt := 86) dX11_kindInLigature_70 (by decide) (by omega) (fun c70 => ?_) (fun c70 => ?_)
          · refine mm_iconst (v := nI 2) dX11_kindInLigature_86 (by decide) ?_
            exact mm_iret dX11_kindInLigature_87 rfl (⟨rfl, by unfold lgK; rw [if_neg (by omega), if_neg (by omega), if_neg (by omega), if_neg (by omega), if_pos (by omega)]⟩)
          · refine mm_lload_n dX11_kindInLigature_73 rfl 2 rfl ?_
            refine mm_iload dX11_kindInLigature_74 3 rfl ?_
            refine rm_callSr (As := [.long (x), .int (nI (i))]) (rest := []) (d2 := 1) dX11_kindInLigature_76 zc_X11_250 rfl rfl (Nat.le_of_ble_eq_true rfl) (Nat.le_of_ble_eq_true rfl) (by decide) (cl_falls (x := x) (i := i) (by omega)) ?_
            refine mn_ifB_eq (tgt := 86) dX11_kindInLigature_79 (by decide) (fun c79 => ?_) (fun c79 => ?_)
            · refine mm_iconst (v := nI 2) dX11_kindInLigature_86 (by decide) ?_
              exact mm_iret dX11_kindInLigature_87 rfl (⟨rfl, by unfold lgK; rw [if_neg (by omega), if_neg (by omega), if_neg (by omega), if_neg (by omega), if_neg (by omega), if_neg (by rw [show n - 1 = i from by omega, c79]; decide)]⟩)
            · refine mm_iconst (v := nI 1) dX11_kindInLigature_82 (by decide) ?_
              refine mm_goto (tgt := 87) dX11_kindInLigature_83 (by decide) ?_
              exact mm_iret dX11_kindInLigature_87 rfl (⟨rfl, by unfold lgK; rw [if_neg (by omega), if_neg (by omega), if_neg (by omega), if_neg (by omega), if_neg (by omega), if_pos (by rw [show n - 1 = i from by omega, c79])]⟩)
        · refine mm_iconst (v := nI 1) dX11_kindInLigature_65 (by decide) ?_
          exact mm_iret dX11_kindInLigature_66 rfl (⟨rfl, by unfold lgK; rw [if_neg (by omega), if_neg (by omega), if_neg (by omega), if_pos (by omega)]⟩)
      · refine mm_iconst (v := nI 2) dX11_kindInLigature_56 (by decide) ?_
        exact mm_iret dX11_kindInLigature_57 rfl (⟨rfl, by unfold lgK; rw [if_neg (by omega), if_neg (by omega), if_pos (by omega)]⟩)
    · refine mm_iload_n dX11_kindInLigature_19 rfl 0 rfl ?_
      refine mm_iconst (v := nI 1) dX11_kindInLigature_20 (by decide) ?_
      refine mn_iand dX11_kindInLigature_21 ?_
      refine mn_top (u := .int (nI (sh % 2))) (congrArg Value.int (by rw [and_1])) ?_
      refine mn_if_eq (tgt := 29) dX11_kindInLigature_22 (by decide) (by omega) (fun c22 => ?_) (fun c22 => ?_)
      · refine mm_iconst (v := nI 0) dX11_kindInLigature_29 (by decide) ?_
        refine mn_top (u := .int (nI (Bool.toNat (decide (sh % 2 = 1))))) (congrArg Value.int (by rw [decide_eq_false (by omega)]; rfl)) ?_
        refine mm_istore (L' := [(5, .int (nI (Bool.toNat (decide (sh % 2 = 1))))), (0, .int (nI (sh))), (1, .int (nI (n))), (2, .long (x)), (4, .int (nI (i)))]) dX11_kindInLigature_30 (by decide) rfl ?_
        refine mm_iload dX11_kindInLigature_32 0 rfl ?_
        refine mm_lload_n dX11_kindInLigature_34 rfl 3 rfl ?_
        refine mm_iconst (v := nI 1) dX11_kindInLigature_35 (by decide) ?_
        refine rm_callSr (As := [.long (x), .int (nI (1))]) (rest := [.int (nI (Bool.toNat (decide (sh % 2 = 1))))]) (d2 := 1) dX11_kindInLigature_36 zc_X11_250 rfl rfl (Nat.le_of_ble_eq_true rfl) (Nat.le_of_ble_eq_true rfl) (by decide) (cl_falls (x := x) (i := 1) (by omega)) ?_
        refine mm_icmp_ne (tgt := 46) dX11_kindInLigature_39 (by decide) (fun c39 => ?_) (fun c39 => ?_)
        · refine mm_iconst (v := nI 1) dX11_kindInLigature_46 (by decide) ?_
          exact mm_iret dX11_kindInLigature_47 rfl (⟨rfl, by unfold lgK; rw [if_neg (by omega), if_pos (by omega), if_neg (fun q => c39 (by rw [q]))]⟩)
        · refine mm_iconst (v := nI 2) dX11_kindInLigature_42 (by decide) ?_
          refine mm_goto (tgt := 47) dX11_kindInLigature_43 (by decide) ?_
          exact mm_iret dX11_kindInLigature_47 rfl (⟨rfl, by unfold lgK; rw [if_neg (by omega), if_pos (by omega), if_pos (bt_inj c39)]⟩)
      · refine mm_iconst (v := nI 1) dX11_kindInLigature_25 (by decide) ?_
        refine mm_goto (tgt := 30) dX11_kindInLigature_26 (by decide) ?_
        refine mn_top (u := .int (nI (Bool.toNat (decide (sh % 2 = 1))))) (congrArg Value.int (by rw [decide_eq_true (by omega)]; rfl)) ?_
        refine mm_istore (L' := [(5, .int (nI (Bool.toNat (decide (sh % 2 = 1))))), (0, .int (nI (sh))), (1, .int (nI (n))), (2, .long (x)), (4, .int (nI (i)))]) dX11_kindInLigature_30 (by decide) rfl ?_
        refine mm_iload dX11_kindInLigature_32 0 rfl ?_
        refine mm_lload_n dX11_kindInLigature_34 rfl 3 rfl ?_
        refine mm_iconst (v := nI 1) dX11_kindInLigature_35 (by decide) ?_
        refine rm_callSr (As := [.long (x), .int (nI (1))]) (rest := [.int (nI (Bool.toNat (decide (sh % 2 = 1))))]) (d2 := 1) dX11_kindInLigature_36 zc_X11_250 rfl rfl (Nat.le_of_ble_eq_true rfl) (Nat.le_of_ble_eq_true rfl) (by decide) (cl_falls (x := x) (i := 1) (by omega)) ?_
        refine mm_icmp_ne (tgt := 46) dX11_kindInLigature_39 (by decide) (fun c39 => ?_) (fun c39 => ?_)
        · refine mm_iconst (v := nI 1) dX11_kindInLigature_46 (by decide) ?_
          exact mm_iret dX11_kindInLigature_47 rfl (⟨rfl, by unfold lgK; rw [if_neg (by omega), if_pos (by omega), if_neg (fun q => c39 (by rw [q]))]⟩)
        · refine mm_iconst (v := nI 2) dX11_kindInLigature_42 (by decide) ?_
          refine mm_goto (tgt := 47) dX11_kindInLigature_43 (by decide) ?_
          exact mm_iret dX11_kindInLigature_47 rfl (⟨rfl, by unfold lgK; rw [if_neg (by omega), if_pos (by omega), if_pos (bt_inj c39)]⟩)
  · refine mm_iload dX11_kindInLigature_6 3 rfl ?_
    refine mm_iconst (v := nI 2) dX11_kindInLigature_8 (by decide) ?_
    refine mn_icmp_ge (tgt := 14) dX11_kindInLigature_9 (by decide) (by omega) (by omega) (fun c9 => ?_) (fun c9 => ?_)
    · refine mm_iload dX11_kindInLigature_14 3 rfl ?_
      refine mn_if_ne (tgt := 48) dX11_kindInLigature_16 (by decide) (by omega) (fun c16 => ?_) (fun c16 => ?_)
      · refine mm_iload dX11_kindInLigature_48 3 rfl ?_
        refine mm_iload_n dX11_kindInLigature_50 rfl 1 rfl ?_
        refine mm_iconst (v := nI 1) dX11_kindInLigature_51 (by decide) ?_
        refine mn_isub dX11_kindInLigature_52 (by omega) ?_
        refine mn_icmp_ge (tgt := 58) dX11_kindInLigature_53 (by decide) (by omega) (by omega) (fun c53 => ?_) (fun c53 => ?_)
        · refine mm_iload_n dX11_kindInLigature_58 rfl 0 rfl ?_
          refine mm_bipush (v := nI 8) dX11_kindInLigature_59 (by decide) ?_
          refine mn_iand dX11_kindInLigature_61 ?_
          refine mn_top (u := .int (nI (8 * (sh / 8 % 2)))) (congrArg Value.int (by rw [and_8])) ?_
          refine mn_if_eq (tgt := 67) dX11_kindInLigature_62 (by decide) (by omega) (fun c62 => ?_) (fun c62 => ?_)
          · refine mm_iload_n dX11_kindInLigature_67 rfl 0 rfl ?_
            refine mm_iconst (v := nI 4) dX11_kindInLigature_68 (by decide) ?_
            refine mn_iand dX11_kindInLigature_69 ?_
            refine mn_top (u := .int (nI (4 * (sh / 4 % 2)))) (congrArg Value.int (by rw [and_4])) ?_
            refine mn_if_ne (tgt := 86) dX11_kindInLigature_70 (by decide) (by omega) (fun c70 => ?_) (fun c70 => ?_)
            · refine mm_iconst (v := nI 2) dX11_kindInLigature_86 (by decide) ?_
              exact mm_iret dX11_kindInLigature_87 rfl (⟨rfl, by unfold lgK; rw [if_neg (by omega), if_neg (by omega), if_neg (by omega), if_neg (by omega), if_pos (by omega)]⟩)
            · refine mm_lload_n dX11_kindInLigature_73 rfl 2 rfl ?_
              refine mm_iload dX11_kindInLigature_74 3 rfl ?_
              refine rm_callSr (As := [.long (x), .int (nI (i))]) (rest := []) (d2 := 1) dX11_kindInLigature_76 zc_X11_250 rfl rfl (Nat.le_of_ble_eq_true rfl) (Nat.le_of_ble_eq_true rfl) (by decide) (cl_falls (x := x) (i := i) (by omega)) ?_
              refine mn_ifB_eq (tgt := 86) dX11_kindInLigature_79 (by decide) (fun c79 => ?_) (fun c79 => ?_)
              · refine mm_iconst (v := nI 2) dX11_kindInLigature_86 (by decide) ?_
                exact mm_iret dX11_kindInLigature_87 rfl (⟨rfl, by unfold lgK; rw [if_neg (by omega), if_neg (by omega), if_neg (by omega), if_neg (by omega), if_neg (by omega), if_neg (by rw [show n - 1 = i from by omega, c79]; decide)]⟩)
              · refine mm_iconst (v := nI 1) dX11_kindInLigature_82 (by decide) ?_
                refine mm_goto (tgt := 87) dX11_kindInLigature_83 (by decide) ?_
                exact mm_iret dX11_kindInLigature_87 rfl (⟨rfl, by unfold lgK; rw [if_neg (by omega), if_neg (by omega), if_neg (by omega), if_neg (by omega), if_neg (by omega), if_pos (by rw [show n - 1 = i from by omega, c79])]⟩)
          · refine mm_iconst (v := nI 1) dX11_kindInLigature_65 (by decide) ?_
            exact mm_iret dX11_kindInLigature_66 rfl (⟨rfl, by unfold lgK; rw [if_neg (by omega), if_neg (by omega), if_neg (by omega), if_pos (by omega)]⟩)
        · refine mm_iconst (v := nI 2) dX11_kindInLigature_56 (by decide) ?_
          exact mm_iret dX11_kindInLigature_57 rfl (⟨rfl, by unfold lgK; rw [if_neg (by omega), if_neg (by omega), if_pos (by omega)]⟩)
      · refine mm_iload_n dX11_kindInLigature_19 rfl 0 rfl ?_
        refine mm_iconst (v := nI 1) dX11_kindInLigature_20 (by decide) ?_
        refine mn_iand dX11_kindInLigature_21 ?_
        refine mn_top (u := .int (nI (sh % 2))) (congrArg Value.int (by rw [and_1])) ?_
        refine mn_if_eq (tgt := 29) dX11_kindInLigature_22 (by decide) (by omega) (fun c22 => ?_) (fun c22 => ?_)
        · refine mm_iconst (v := nI 0) dX11_kindInLigature_29 (by decide) ?_
          refine mn_top (u := .int (nI (Bool.toNat (decide (sh % 2 = 1))))) (congrArg Value.int (by rw [decide_eq_false (by omega)]; rfl)) ?_
          refine mm_istore (L' := [(5, .int (nI (Bool.toNat (decide (sh % 2 = 1))))), (0, .int (nI (sh))), (1, .int (nI (n))), (2, .long (x)), (4, .int (nI (i)))]) dX11_kindInLigature_30 (by decide) rfl ?_
          refine mm_iload dX11_kindInLigature_32 0 rfl ?_
          refine mm_lload_n dX11_kindInLigature_34 rfl 3 rfl ?_
          refine mm_iconst (v := nI 1) dX11_kindInLigature_35 (by decide) ?_
          refine rm_callSr (As := [.long (x), .int (nI (1))]) (rest := [.int (nI (Bool.toNat (decide (sh % 2 = 1))))]) (d2 := 1) dX11_kindInLigature_36 zc_X11_250 rfl rfl (Nat.le_of_ble_eq_true rfl) (Nat.le_of_ble_eq_true rfl) (by decide) (cl_falls (x := x) (i := 1) (by omega)) ?_
          refine mm_icmp_ne (tgt := 46) dX11_kindInLigature_39 (by decide) (fun c39 => ?_) (fun c39 => ?_)
          · refine mm_iconst (v := nI 1) dX11_kindInLigature_46 (by decide) ?_
            exact mm_iret dX11_kindInLigature_47 rfl (⟨rfl, by unfold lgK; rw [if_neg (by omega), if_pos (by omega), if_neg (fun q => c39 (by rw [q]))]⟩)
          · refine mm_iconst (v := nI 2) dX11_kindInLigature_42 (by decide) ?_
            refine mm_goto (tgt := 47) dX11_kindInLigature_43 (by decide) ?_
            exact mm_iret dX11_kindInLigature_47 rfl (⟨rfl, by unfold lgK; rw [if_neg (by omega), if_pos (by omega), if_pos (bt_inj c39)]⟩)
        · refine mm_iconst (v := nI 1) dX11_kindInLigature_25 (by decide) ?_
          refine mm_goto (tgt := 30) dX11_kindInLigature_26 (by decide) ?_
          refine mn_top (u := .int (nI (Bool.toNat (decide (sh % 2 = 1))))) (congrArg Value.int (by rw [decide_eq_true (by omega)]; rfl)) ?_
          refine mm_istore (L' := [(5, .int (nI (Bool.toNat (decide (sh % 2 = 1))))), (0, .int (nI (sh))), (1, .int (nI (n))), (2, .long (x)), (4, .int (nI (i)))]) dX11_kindInLigature_30 (by decide) rfl ?_
          refine mm_iload dX11_kindInLigature_32 0 rfl ?_
          refine mm_lload_n dX11_kindInLigature_34 rfl 3 rfl ?_
          refine mm_iconst (v := nI 1) dX11_kindInLigature_35 (by decide) ?_
          refine rm_callSr (As := [.long (x), .int (nI (1))]) (rest := [.int (nI (Bool.toNat (decide (sh % 2 = 1))))]) (d2 := 1) dX11_kindInLigature_36 zc_X11_250 rfl rfl (Nat.le_of_ble_eq_true rfl) (Nat.le_of_ble_eq_true rfl) (by decide) (cl_falls (x := x) (i := 1) (by omega)) ?_
          refine mm_icmp_ne (tgt := 46) dX11_kindInLigature_39 (by decide) (fun c39 => ?_) (fun c39 => ?_)
          · refine mm_iconst (v := nI 1) dX11_kindInLigature_46 (by decide) ?_
            exact mm_iret dX11_kindInLigature_47 rfl (⟨rfl, by unfold lgK; rw [if_neg (by omega), if_pos (by omega), if_neg (fun q => c39 (by rw [q]))]⟩)
          · refine mm_iconst (v := nI 2) dX11_kindInLigature_42 (by decide) ?_
            refine mm_goto (tgt := 47) dX11_kindInLigature_43 (by decide) ?_
            exact mm_iret dX11_kindInLigature_47 rfl (⟨rfl, by unfold lgK; rw [if_neg (by omega), if_pos (by omega), if_pos (bt_inj c39)]⟩)
    · refine mm_iconst (v := nI 3) dX11_kindInLigature_12 (by decide) ?_
      exact mm_iret dX11_kindInLigature_13 rfl (⟨rfl, by unfold lgK; rw [if_pos (by omega)]⟩)
