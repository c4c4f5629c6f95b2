/-! small writers -/
theorem xu_id {α : Type} {X : Nat → Nat → α} {a i : Nat} {v : α} (h : X a i = v) : xu X a i v = X := by
  funext b j
  unfold xu
  by_cases z : b = a ∧ j = i
  · rw [if_pos z, z.1, z.2]; exact h.symm
  · rw [if_neg z]
set_option maxRecDepth 100000 in
set_option maxHeartbeats 4000000 in
theorem cd_begin {l : Launch} {D : va_G} {aa : Nat → ClassId} {b0 : Nat} {h : mm_H} {o : Nat} {X : Nat → Nat → Int32} {Y : Nat → Nat → Int64} {rl : Option Nat}  (ha : cm_at o X Y rl h) : mm_V (zz_K l D aa b0) 0 yX1_begin cX1_begin 1 none 0 [(0, .ref (o + 25))] [] h 0 0 (fun rv h' => rv = none ∧ cm_at o (xu (xu (xu (xu X 25 2 (nI 0)) 25 3 (nI 0)) 25 4 (nI 0)) 25 5 (nI 1)) Y rl h' ∧ cm_fr o h h') := by
  have hf := cm_fr.rf (o := o) (h := h)
  refine mm_aload_n dX1_begin_0 rfl 0 rfl ?_
  refine mm_iconst (v := nI 0) dX1_begin_1 (by decide) ?_
  refine cm_putI dX1_begin_2 ha hf zp_X1_18 (by decide) rfl rfl rfl rfl (fun h ha hf => ?_)
  refine mm_aload_n dX1_begin_5 rfl 0 rfl ?_
  refine mm_iconst (v := nI 0) dX1_begin_6 (by decide) ?_
  refine cm_putI dX1_begin_7 ha hf zp_X1_22 (by decide) rfl rfl rfl rfl (fun h ha hf => ?_)
  refine mm_aload_n dX1_begin_10 rfl 0 rfl ?_
  refine mm_iconst (v := nI 0) dX1_begin_11 (by decide) ?_
  refine cm_putI dX1_begin_12 ha hf zp_X1_25 (by decide) rfl rfl rfl rfl (fun h ha hf => ?_)
  refine mm_aload_n dX1_begin_15 rfl 0 rfl ?_
  refine mm_iconst (v := nI 1) dX1_begin_16 (by decide) ?_
  refine cm_putI dX1_begin_17 ha hf zp_X1_28 (by decide) rfl rfl rfl rfl (fun h ha hf => ?_)
  exact mm_vret dX1_begin_20 rfl (⟨rfl, ha, hf⟩)
set_option maxRecDepth 100000 in
set_option maxHeartbeats 4000000 in
theorem cd_take {l : Launch} {D : va_G} {aa : Nat → ClassId} {b0 : Nat} {h : mm_H} {o : Nat} {X : Nat → Nat → Int32} {Y : Nat → Nat → Int64} {rl : Option Nat} {p : Nat} {v : Int32} (ha : cm_at o X Y rl h) (hp : X 25 4 = nI p) (hp24 : p < 24) : mm_V (zz_K l D aa b0) 0 yX1_take cX1_take 2 none 0 [(0, .ref (o + 25)), (1, .int (v))] [] h 0 0 (fun rv h' => rv = none ∧ cm_at o (xu (xu X 27 p v) 25 4 (nI (p + 1))) Y rl h' ∧ cm_fr o h h') := by
  have hf := cm_fr.rf (o := o) (h := h)
  refine mm_aload_n dX1_take_0 rfl 0 rfl ?_
  refine cm_getI dX1_take_1 ha zr_X1_25 (by decide) rfl rfl ?_
  refine mn_top (u := .int (nI (p))) (congrArg Value.int ((hp))) ?_
  refine mn_if_lt (tgt := 36) dX1_take_4 (by decide) (by omega) ?_
  refine mm_aload_n dX1_take_7 rfl 0 rfl ?_
  refine cm_getI dX1_take_8 ha zr_X1_25 (by decide) rfl rfl ?_
  refine mn_top (u := .int (nI (p))) (congrArg Value.int ((hp))) ?_
  refine mm_bipush (v := nI 24) dX1_take_11 (by decide) ?_
  refine mn_icmp_ge (tgt := 36) dX1_take_13 (by decide) (by omega) (by omega) (fun c13 => ?_) (fun c13 => ?_)
  · omega
  · refine mm_aload_n dX1_take_16 rfl 0 rfl ?_
    refine cm_getR (b := 27) dX1_take_17 ha zr_X1_15 (by decide) rfl rfl rfl ?_
    refine mm_aload_n dX1_take_20 rfl 0 rfl ?_
    refine cm_getI dX1_take_21 ha zr_X1_25 (by decide) rfl rfl ?_
    refine mn_top (u := .int (nI (p))) (congrArg Value.int ((hp))) ?_
    refine mm_iload_n dX1_take_24 rfl 1 rfl ?_
    refine cm_iast (i := p) dX1_take_25 ha hf (by decide) rfl (by omega) (by decide) (fun h ha hf => ?_)
    refine mm_aload_n dX1_take_26 rfl 0 rfl ?_
    refine mm_dup dX1_take_27 rfl ?_
    refine cm_getI dX1_take_28 ha zr_X1_25 (by decide) rfl rfl ?_
    refine mn_top (u := .int (nI (p))) (congrArg Value.int (Eq.trans (xu_a (by decide)) ((hp)))) ?_
    refine mm_iconst (v := nI 1) dX1_take_31 (by decide) ?_
    refine mn_iadd dX1_take_32 ?_
    refine cm_putI dX1_take_33 ha hf zp_X1_25 (by decide) rfl rfl rfl rfl (fun h ha hf => ?_)
    exact mm_vret dX1_take_36 rfl (⟨rfl, ha, hf⟩)
set_option maxRecDepth 100000 in
set_option maxHeartbeats 4000000 in
theorem cd_takeDotted {l : Launch} {D : va_G} {aa : Nat → ClassId} {b0 : Nat} {h : mm_H} {o : Nat} {X : Nat → Nat → Int32} {Y : Nat → Nat → Int64} {rl : Option Nat} {p : Nat} {v : Int32} (ha : cm_at o X Y rl h) (hp : X 25 4 = nI p) (hp24 : p + 1 < 24) : mm_V (zz_K l D aa b0) 1 yX1_takeDotted cX1_takeDotted 2 none 0 [(0, .ref (o + 25)), (1, .int (v))] [] h 0 0 (fun rv h' => rv = none ∧ cm_at o (xu (xu (xu (xu X 27 p v) 25 4 (nI (p + 1))) 27 (p + 1) (nI 0)) 25 4 (nI (p + 1 + 1))) Y rl h' ∧ cm_fr o h h') := by
  have hf := cm_fr.rf (o := o) (h := h)
  refine mm_aload_n dX1_takeDotted_0 rfl 0 rfl ?_
  refine mm_iload_n dX1_takeDotted_1 rfl 1 rfl ?_
  refine cm_callV (As := [.int (v)]) (rest := []) (d2 := 0) dX1_takeDotted_2 ha (by decide) rfl zz_clX1 zc_X1_31 zs_X1_take rfl rfl (Nat.le_of_ble_eq_true rfl) (Nat.le_of_ble_eq_true rfl) (by decide) (cd_take ha hp (by omega)) (fun r h1 hq => ?_)
  obtain ⟨rfl, ha, hf'⟩ := hq
  have hf := hf.tr hf'
  refine mm_aload_n dX1_takeDotted_5 rfl 0 rfl ?_
  refine mm_iconst (v := nI 0) dX1_takeDotted_6 (by decide) ?_
  refine cm_callV (As := [.int (nI (0))]) (rest := []) (d2 := 0) dX1_takeDotted_7 ha (by decide) rfl zz_clX1 zc_X1_31 zs_X1_take rfl rfl (Nat.le_of_ble_eq_true rfl) (Nat.le_of_ble_eq_true rfl) (by decide) (cd_take ha (p := p + 1) xu_s hp24) (fun r h1 hq => ?_)
  obtain ⟨rfl, ha, hf'⟩ := hq
  have hf := hf.tr hf'
  exact mm_vret dX1_takeDotted_10 rfl (⟨rfl, ha, hf⟩)
set_option maxRecDepth 100000 in
set_option maxHeartbeats 4000000 in
theorem cd_tell {l : Launch} {D : va_G} {aa : Nat → ClassId} {b0 : Nat} {h : mm_H} {o : Nat} {X : Nat → Nat → Int32} {Y : Nat → Nat → Int64} {rl : Option Nat} {n t f : Nat} (ha : cm_at o X Y rl h) (hn : X 25 2 = nI n) (hn48 : n < 48) (ht : X 25 3 = nI t) (hf1 : f < 100) : mm_V (zz_K l D aa b0) 0 yX1_tell cX1_tell 2 none 0 [(0, .ref (o + 25)), (1, .int (nI (f)))] [] h 0 0 (fun rv h' => rv = none ∧ cm_at o (xu (xu (xu X 26 n (nI f)) 25 2 (nI (n + 1))) 25 3 (nI (t + wt_ f))) Y rl h' ∧ cm_fr o h h') := by
  have hf := cm_fr.rf (o := o) (h := h)
  refine mm_aload_n dX1_tell_0 rfl 0 rfl ?_
  refine cm_getI dX1_tell_1 ha zr_X1_18 (by decide) rfl rfl ?_
  refine mn_top (u := .int (nI (n))) (congrArg Value.int ((hn))) ?_
  refine mn_if_lt (tgt := 36) dX1_tell_4 (by decide) (by omega) ?_
  refine mm_aload_n dX1_tell_7 rfl 0 rfl ?_
  refine cm_getI dX1_tell_8 ha zr_X1_18 (by decide) rfl rfl ?_
  refine mn_top (u := .int (nI (n))) (congrArg Value.int ((hn))) ?_
  refine mm_bipush (v := nI 48) dX1_tell_11 (by decide) ?_
  refine mn_icmp_ge (tgt := 36) dX1_tell_13 (by decide) (by omega) (by omega) (fun c13 => ?_) (fun c13 => ?_)
  · omega
  · refine mm_aload_n dX1_tell_16 rfl 0 rfl ?_
    refine cm_getR (b := 26) dX1_tell_17 ha zr_X1_11 (by decide) rfl rfl rfl ?_
    refine mm_aload_n dX1_tell_20 rfl 0 rfl ?_
    refine cm_getI dX1_tell_21 ha zr_X1_18 (by decide) rfl rfl ?_
    refine mn_top (u := .int (nI (n))) (congrArg Value.int ((hn))) ?_
    refine mm_iload_n dX1_tell_24 rfl 1 rfl ?_
    refine cm_iast (i := n) dX1_tell_25 ha hf (by decide) rfl (by omega) (by decide) (fun h ha hf => ?_)
    refine mm_aload_n dX1_tell_26 rfl 0 rfl ?_
    refine mm_dup dX1_tell_27 rfl ?_
    refine cm_getI dX1_tell_28 ha zr_X1_18 (by decide) rfl rfl ?_
    refine mn_top (u := .int (nI (n))) (congrArg Value.int (Eq.trans (xu_a (by decide)) ((hn)))) ?_
    refine mm_iconst (v := nI 1) dX1_tell_31 (by decide) ?_
    refine mn_iadd dX1_tell_32 ?_
    refine cm_putI dX1_tell_33 ha hf zp_X1_18 (by decide) rfl rfl rfl rfl (fun h ha hf => ?_)
    refine mm_iload_n dX1_tell_36 rfl 1 rfl ?_
    refine mm_bipush (v := nI 7) dX1_tell_37 (by decide) ?_
    refine mn_icmp_eq (tgt := 48) dX1_tell_39 (by decide) (by omega) (by omega) (fun c39 => ?_) (fun c39 => ?_)
    · refine mm_aload_n dX1_tell_48 rfl 0 rfl ?_
      refine mm_dup dX1_tell_49 rfl ?_
      refine cm_getI dX1_tell_50 ha zr_X1_22 (by decide) rfl rfl ?_
      refine mn_top (u := .int (nI (t))) (congrArg Value.int (Eq.trans (xu_i (by decide)) (Eq.trans (xu_a (by decide)) ((ht))))) ?_
      refine mm_iconst (v := nI 1) dX1_tell_53 (by decide) ?_
      refine mn_iadd dX1_tell_54 ?_
      refine cm_putI dX1_tell_55 ha hf zp_X1_22 (by decide) rfl rfl rfl rfl (fun h ha hf => ?_)
      refine mm_goto (tgt := 96) dX1_tell_58 (by decide) ?_
      first
      | exact mm_vret dX1_tell_96 rfl ⟨rfl, by rw [show wt_ f = 1 from by unfold wt_; rw [if_pos (by omega)]]; exact ha, hf⟩
      | exact mm_vret dX1_tell_96 rfl ⟨rfl, by rw [show wt_ f = 2 from by unfold wt_; rw [if_neg (by omega), if_pos (by omega)]]; exact ha, hf⟩
      | exact mm_vret dX1_tell_96 rfl ⟨rfl, by rw [show wt_ f = 3 from by unfold wt_; rw [if_neg (by omega), if_neg (by omega), if_pos (by omega)]]; exact ha, hf⟩
      | exact mm_vret dX1_tell_96 rfl ⟨rfl, by rw [show wt_ f = 0 from by unfold wt_; rw [if_neg (by omega), if_neg (by omega), if_neg (by omega)]]; show cm_at o (xu (xu (xu X 26 n (nI f)) 25 2 (nI (n + 1))) 25 3 (nI t)) Y rl _; rw [xu_id ((xu_i (by decide)).trans ((xu_a (by decide)).trans ht))]; exact ha, hf⟩
    · refine mm_iload_n dX1_tell_42 rfl 1 rfl ?_
      refine mm_bipush (v := nI 12) dX1_tell_43 (by decide) ?_
      refine mn_icmp_ne (tgt := 61) dX1_tell_45 (by decide) (by omega) (by omega) (fun c45 => ?_) (fun c45 => ?_)
      · refine mm_iload_n dX1_tell_61 rfl 1 rfl ?_
        refine mm_bipush (v := nI 8) dX1_tell_62 (by decide) ?_
        refine mn_icmp_ne (tgt := 80) dX1_tell_64 (by decide) (by omega) (by omega) (fun c64 => ?_) (fun c64 => ?_)
        · refine mm_iload_n dX1_tell_80 rfl 1 rfl ?_
          refine mm_bipush (v := nI 9) dX1_tell_81 (by decide) ?_
          refine mn_icmp_ne (tgt := 96) dX1_tell_83 (by decide) (by omega) (by omega) (fun c83 => ?_) (fun c83 => ?_)
          · first
            | exact mm_vret dX1_tell_96 rfl ⟨rfl, by rw [show wt_ f = 1 from by unfold wt_; rw [if_pos (by omega)]]; exact ha, hf⟩
            | exact mm_vret dX1_tell_96 rfl ⟨rfl, by rw [show wt_ f = 2 from by unfold wt_; rw [if_neg (by omega), if_pos (by omega)]]; exact ha, hf⟩
            | exact mm_vret dX1_tell_96 rfl ⟨rfl, by rw [show wt_ f = 3 from by unfold wt_; rw [if_neg (by omega), if_neg (by omega), if_pos (by omega)]]; exact ha, hf⟩
            | exact mm_vret dX1_tell_96 rfl ⟨rfl, by rw [show wt_ f = 0 from by unfold wt_; rw [if_neg (by omega), if_neg (by omega), if_neg (by omega)]]; show cm_at o (xu (xu (xu X 26 n (nI f)) 25 2 (nI (n + 1))) 25 3 (nI t)) Y rl _; rw [xu_id ((xu_i (by decide)).trans ((xu_a (by decide)).trans ht))]; exact ha, hf⟩
          · refine mm_aload_n dX1_tell_86 rfl 0 rfl ?_
            refine mm_dup dX1_tell_87 rfl ?_
            refine cm_getI dX1_tell_88 ha zr_X1_22 (by decide) rfl rfl ?_
            refine mn_top (u := .int (nI (t))) (congrArg Value.int (Eq.trans (xu_i (by decide)) (Eq.trans (xu_a (by decide)) ((ht))))) ?_
            refine mm_iconst (v := nI 3) dX1_tell_91 (by decide) ?_
            refine mn_iadd dX1_tell_92 ?_
            refine cm_putI dX1_tell_93 ha hf zp_X1_22 (by decide) rfl rfl rfl rfl (fun h ha hf => ?_)
            first
            | exact mm_vret dX1_tell_96 rfl ⟨rfl, by rw [show wt_ f = 1 from by unfold wt_; rw [if_pos (by omega)]]; exact ha, hf⟩
            | exact mm_vret dX1_tell_96 rfl ⟨rfl, by rw [show wt_ f = 2 from by unfold wt_; rw [if_neg (by omega), if_pos (by omega)]]; exact ha, hf⟩
            | exact mm_vret dX1_tell_96 rfl ⟨rfl, by rw [show wt_ f = 3 from by unfold wt_; rw [if_neg (by omega), if_neg (by omega), if_pos (by omega)]]; exact ha, hf⟩
            | exact mm_vret dX1_tell_96 rfl ⟨rfl, by rw [show wt_ f = 0 from by unfold wt_; rw [if_neg (by omega), if_neg (by omega), if_neg (by omega)]]; show cm_at o (xu (xu (xu X 26 n (nI f)) 25 2 (nI (n + 1))) 25 3 (nI t)) Y rl _; rw [xu_id ((xu_i (by decide)).trans ((xu_a (by decide)).trans ht))]; exact ha, hf⟩
        · refine mm_aload_n dX1_tell_67 rfl 0 rfl ?_
          refine mm_dup dX1_tell_68 rfl ?_
          refine cm_getI dX1_tell_69 ha zr_X1_22 (by decide) rfl rfl ?_
          refine mn_top (u := .int (nI (t))) (congrArg Value.int (Eq.trans (xu_i (by decide)) (Eq.trans (xu_a (by decide)) ((ht))))) ?_
          refine mm_iconst (v := nI 2) dX1_tell_72 (by decide) ?_
          refine mn_iadd dX1_tell_73 ?_
          refine cm_putI dX1_tell_74 ha hf zp_X1_22 (by decide) rfl rfl rfl rfl (fun h ha hf => ?_)
          refine mm_goto (tgt := 96) dX1_tell_77 (by decide) ?_
          first
          | exact mm_vret dX1_tell_96 rfl ⟨rfl, by rw [show wt_ f = 1 from by unfold wt_; rw [if_pos (by omega)]]; exact ha, hf⟩
          | exact mm_vret dX1_tell_96 rfl ⟨rfl, by rw [show wt_ f = 2 from by unfold wt_; rw [if_neg (by omega), if_pos (by omega)]]; exact ha, hf⟩
          | exact mm_vret dX1_tell_96 rfl ⟨rfl, by rw [show wt_ f = 3 from by unfold wt_; rw [if_neg (by omega), if_neg (by omega), if_pos (by omega)]]; exact ha, hf⟩
          | exact mm_vret dX1_tell_96 rfl ⟨rfl, by rw [show wt_ f = 0 from by unfold wt_; rw [if_neg (by omega), if_neg (by omega), if_neg (by omega)]]; show cm_at o (xu (xu (xu X 26 n (nI f)) 25 2 (nI (n + 1))) 25 3 (nI t)) Y rl _; rw [xu_id ((xu_i (by decide)).trans ((xu_a (by decide)).trans ht))]; exact ha, hf⟩
      · refine mm_aload_n dX1_tell_48 rfl 0 rfl ?_
        refine mm_dup dX1_tell_49 rfl ?_
        refine cm_getI dX1_tell_50 ha zr_X1_22 (by decide) rfl rfl ?_
        refine mn_top (u := .int (nI (t))) (congrArg Value.int (Eq.trans (xu_i (by decide)) (Eq.trans (xu_a (by decide)) ((ht))))) ?_
        refine mm_iconst (v := nI 1) dX1_tell_53 (by decide) ?_
        refine mn_iadd dX1_tell_54 ?_
        refine cm_putI dX1_tell_55 ha hf zp_X1_22 (by decide) rfl rfl rfl rfl (fun h ha hf => ?_)
        refine mm_goto (tgt := 96) dX1_tell_58 (by decide) ?_
        first
        | exact mm_vret dX1_tell_96 rfl ⟨rfl, by rw [show wt_ f = 1 from by unfold wt_; rw [if_pos (by omega)]]; exact ha, hf⟩
        | exact mm_vret dX1_tell_96 rfl ⟨rfl, by rw [show wt_ f = 2 from by unfold wt_; rw [if_neg (by omega), if_pos (by omega)]]; exact ha, hf⟩
        | exact mm_vret dX1_tell_96 rfl ⟨rfl, by rw [show wt_ f = 3 from by unfold wt_; rw [if_neg (by omega), if_neg (by omega), if_pos (by omega)]]; exact ha, hf⟩
        | exact mm_vret dX1_tell_96 rfl ⟨rfl, by rw [show wt_ f = 0 from by unfold wt_; rw [if_neg (by omega), if_neg (by omega), if_neg (by omega)]]; show cm_at o (xu (xu (xu X 26 n (nI f)) 25 2 (nI (n + 1))) 25 3 (nI t)) Y rl _; rw [xu_id ((xu_i (by decide)).trans ((xu_a (by decide)).trans ht))]; exact ha, hf⟩
set_option maxRecDepth 100000 in
set_option maxHeartbeats 4000000 in
theorem cc_push {l : Launch} {D : va_G} {aa : Nat → ClassId} {b0 : Nat} {h : mm_H} {o : Nat} {X : Nat → Nat → Int32} {Y : Nat → Nat → Int64} {rl : Option Nat} {m : Nat} {s k v r q : Int32} (ha : cm_at o X Y rl h) (hm : X 4 6 = nI m) (hm8 : m < 128) : mm_V (zz_K l D aa b0) 0 yX0_push cX0_push 6 (some .int) 0 [(0, .ref (o + 4)), (1, .int (s)), (2, .int (k)), (3, .int (v)), (4, .int (r)), (5, .int (q))] [] h 0 0 (fun rv h' => rv = some (.int (nI m)) ∧ cm_at o (xu (xu (xu (xu (xu (xu X 5 m s) 6 m k) 7 m v) 8 m r) 9 m q) 4 6 (nI (m + 1))) Y rl h' ∧ cm_fr o h h') := by
  have hf := cm_fr.rf (o := o) (h := h)
  refine mm_aload_n dX0_push_0 rfl 0 rfl ?_
  refine cm_getI dX0_push_1 ha zr_X0_32 (by decide) rfl rfl ?_
  refine mn_top (u := .int (nI (m))) (congrArg Value.int ((hm))) ?_
  refine mn_if_lt (tgt := 17) dX0_push_4 (by decide) (by omega) ?_
  refine mm_aload_n dX0_push_7 rfl 0 rfl ?_
  refine cm_getI dX0_push_8 ha zr_X0_32 (by decide) rfl rfl ?_
  refine mn_top (u := .int (nI (m))) (congrArg Value.int ((hm))) ?_
  refine mm_sipush (v := nI 128) dX0_push_11 (by decide) ?_
  refine mn_icmp_lt (tgt := 19) dX0_push_14 (by decide) (by omega) (by omega) (fun c14 => ?_) (fun c14 => ?_)
  · refine mm_aload_n dX0_push_19 rfl 0 rfl ?_
    refine cm_getR (b := 5) dX0_push_20 ha zr_X0_9 (by decide) rfl rfl rfl ?_
    refine mm_aload_n dX0_push_23 rfl 0 rfl ?_
    refine cm_getI dX0_push_24 ha zr_X0_32 (by decide) rfl rfl ?_
    refine mn_top (u := .int (nI (m))) (congrArg Value.int ((hm))) ?_
    refine mm_iload_n dX0_push_27 rfl 1 rfl ?_
    refine cm_iast (i := m) dX0_push_28 ha hf (by decide) rfl (by omega) (by decide) (fun h ha hf => ?_)
    refine mm_aload_n dX0_push_29 rfl 0 rfl ?_
    refine cm_getR (b := 6) dX0_push_30 ha zr_X0_13 (by decide) rfl rfl rfl ?_
    refine mm_aload_n dX0_push_33 rfl 0 rfl ?_
    refine cm_getI dX0_push_34 ha zr_X0_32 (by decide) rfl rfl ?_
    refine mn_top (u := .int (nI (m))) (congrArg Value.int (Eq.trans (xu_a (by decide)) ((hm)))) ?_
    refine mm_iload_n dX0_push_37 rfl 2 rfl ?_
    refine cm_iast (i := m) dX0_push_38 ha hf (by decide) rfl (by omega) (by decide) (fun h ha hf => ?_)
    refine mm_aload_n dX0_push_39 rfl 0 rfl ?_
    refine cm_getR (b := 7) dX0_push_40 ha zr_X0_16 (by decide) rfl rfl rfl ?_
    refine mm_aload_n dX0_push_43 rfl 0 rfl ?_
    refine cm_getI dX0_push_44 ha zr_X0_32 (by decide) rfl rfl ?_
    refine mn_top (u := .int (nI (m))) (congrArg Value.int (Eq.trans (xu_a (by decide)) (Eq.trans (xu_a (by decide)) ((hm))))) ?_
    refine mm_iload_n dX0_push_47 rfl 3 rfl ?_
    refine cm_iast (i := m) dX0_push_48 ha hf (by decide) rfl (by omega) (by decide) (fun h ha hf => ?_)
    refine mm_aload_n dX0_push_49 rfl 0 rfl ?_
    refine cm_getR (b := 8) dX0_push_50 ha zr_X0_19 (by decide) rfl rfl rfl ?_
    refine mm_aload_n dX0_push_53 rfl 0 rfl ?_
    refine cm_getI dX0_push_54 ha zr_X0_32 (by decide) rfl rfl ?_
    refine mn_top (u := .int (nI (m))) (congrArg Value.int (Eq.trans (xu_a (by decide)) (Eq.trans (xu_a (by decide)) (Eq.trans (xu_a (by decide)) ((hm)))))) ?_
    refine mm_iload dX0_push_57 4 rfl ?_
    refine cm_iast (i := m) dX0_push_59 ha hf (by decide) rfl (by omega) (by decide) (fun h ha hf => ?_)
    refine mm_aload_n dX0_push_60 rfl 0 rfl ?_
    refine cm_getR (b := 9) dX0_push_61 ha zr_X0_22 (by decide) rfl rfl rfl ?_
    refine mm_aload_n dX0_push_64 rfl 0 rfl ?_
    refine cm_getI dX0_push_65 ha zr_X0_32 (by decide) rfl rfl ?_
    refine mn_top (u := .int (nI (m))) (congrArg Value.int (Eq.trans (xu_a (by decide)) (Eq.trans (xu_a (by decide)) (Eq.trans (xu_a (by decide)) (Eq.trans (xu_a (by decide)) ((hm))))))) ?_
    refine mm_iload dX0_push_68 5 rfl ?_
    refine cm_iast (i := m) dX0_push_70 ha hf (by decide) rfl (by omega) (by decide) (fun h ha hf => ?_)
    refine mm_aload_n dX0_push_71 rfl 0 rfl ?_
    refine mm_dup dX0_push_72 rfl ?_
    refine cm_getI dX0_push_73 ha zr_X0_32 (by decide) rfl rfl ?_
    refine mn_top (u := .int (nI (m))) (congrArg Value.int (Eq.trans (xu_a (by decide)) (Eq.trans (xu_a (by decide)) (Eq.trans (xu_a (by decide)) (Eq.trans (xu_a (by decide)) (Eq.trans (xu_a (by decide)) ((hm)))))))) ?_
    refine mm_iconst (v := nI 1) dX0_push_76 (by decide) ?_
    refine mn_iadd dX0_push_77 ?_
    refine cm_putI dX0_push_78 ha hf zp_X0_32 (by decide) rfl rfl rfl rfl (fun h ha hf => ?_)
    refine mm_aload_n dX0_push_81 rfl 0 rfl ?_
    refine cm_getI dX0_push_82 ha zr_X0_32 (by decide) rfl rfl ?_
    refine mn_top (u := .int (nI ((m) + (1)))) (congrArg Value.int (xu_s)) ?_
    refine mm_iconst (v := nI 1) dX0_push_85 (by decide) ?_
    refine mn_isub dX0_push_86 (by omega) ?_
    exact mm_iret dX0_push_87 rfl (⟨rfl, ha, hf⟩)
  · omega
set_option maxRecDepth 100000 in
set_option maxHeartbeats 4000000 in
theorem cv_know {l : Launch} {D : va_G} {aa : Nat → ClassId} {b0 : Nat} {h : mm_H} {o : Nat} {X : Nat → Nat → Int32} {Y : Nat → Nat → Int64} {rl : Option Nat} {a : Nat} {t u : Int32} (ha : cm_at o X Y rl h) (hva : vA a) : mm_V (zz_K l D aa b0) 0 yX9_know cX9_know 3 none 0 [(0, .ref (o + a)), (1, .int (t)), (2, .int (u))] [] h 0 0 (fun rv h' => rv = none ∧ cm_at o (xu (xu (xu X a 5 t) a 6 u) a 8 (nI 0)) Y rl h' ∧ cm_fr o h h') := by
  have hf := cm_fr.rf (o := o) (h := h)
  refine mm_aload_n dX9_know_0 rfl 0 rfl ?_
  refine mm_iload_n dX9_know_1 rfl 1 rfl ?_
  refine cm_putI dX9_know_2 ha hf zp_X9_59 (vA_lt hva 0 (by decide)) (vA_0 hva) rfl rfl rfl (fun h ha hf => ?_)
  refine mm_aload_n dX9_know_5 rfl 0 rfl ?_
  refine mm_iload_n dX9_know_6 rfl 2 rfl ?_
  refine cm_putI dX9_know_7 ha hf zp_X9_62 (vA_lt hva 0 (by decide)) (vA_0 hva) rfl rfl rfl (fun h ha hf => ?_)
  refine mm_aload_n dX9_know_10 rfl 0 rfl ?_
  refine mm_iconst (v := nI 0) dX9_know_11 (by decide) ?_
  refine cm_putI dX9_know_12 ha hf zp_X9_25 (vA_lt hva 0 (by decide)) (vA_0 hva) rfl (by decide) (by decide) (fun h ha hf => ?_)
  exact mm_vret dX9_know_15 rfl (⟨rfl, ha, hf⟩)
set_option maxRecDepth 100000 in
set_option maxHeartbeats 4000000 in
theorem cv_change {l : Launch} {D : va_G} {aa : Nat → ClassId} {b0 : Nat} {h : mm_H} {o : Nat} {X : Nat → Nat → Int32} {Y : Nat → Nat → Int64} {rl : Option Nat} {a : Nat} (ha : cm_at o X Y rl h) (hva : vA a) : mm_V (zz_K l D aa b0) 0 yX9_change cX9_change 1 none 0 [(0, .ref (o + a))] [] h 0 0 (fun rv h' => rv = none ∧ cm_at o (xu (xu X a 8 (nI 1)) a 7 (nI 0)) Y rl h' ∧ cm_fr o h h') := by
  have hf := cm_fr.rf (o := o) (h := h)
  refine mm_aload_n dX9_change_0 rfl 0 rfl ?_
  refine mm_iconst (v := nI 1) dX9_change_1 (by decide) ?_
  refine cm_putI dX9_change_2 ha hf zp_X9_25 (vA_lt hva 0 (by decide)) (vA_0 hva) rfl (by decide) (by decide) (fun h ha hf => ?_)
  refine mm_aload_n dX9_change_5 rfl 0 rfl ?_
  refine mm_iconst (v := nI 0) dX9_change_6 (by decide) ?_
  refine cm_putI dX9_change_7 ha hf zp_X9_56 (vA_lt hva 0 (by decide)) (vA_0 hva) rfl rfl rfl (fun h ha hf => ?_)
  exact mm_vret dX9_change_10 rfl (⟨rfl, ha, hf⟩)
set_option maxRecDepth 100000 in
set_option maxHeartbeats 4000000 in
theorem cf_clear {l : Launch} {D : va_G} {aa : Nat → ClassId} {b0 : Nat} {h : mm_H} {o : Nat} {X : Nat → Nat → Int32} {Y : Nat → Nat → Int64} {rl : Option Nat}  (ha : cm_at o X Y rl h) : mm_V (zz_K l D aa b0) 0 yX3_clear cX3_clear 1 none 0 [(0, .ref (o + 20))] [] h 0 0 (fun rv h' => rv = none ∧ cm_at o (xu X 20 4 (nI 0)) Y rl h' ∧ cm_fr o h h') := by
  have hf := cm_fr.rf (o := o) (h := h)
  refine mm_aload_n dX3_clear_0 rfl 0 rfl ?_
  refine mm_iconst (v := nI 0) dX3_clear_1 (by decide) ?_
  refine cm_putI dX3_clear_2 ha hf zp_X3_25 (by decide) rfl rfl rfl rfl (fun h ha hf => ?_)
  exact mm_vret dX3_clear_5 rfl (⟨rfl, ha, hf⟩)
