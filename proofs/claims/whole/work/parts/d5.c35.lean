/-! Writer: a row is chosen, put down -/
set_option maxRecDepth 100000 in
set_option maxHeartbeats 4000000 in
theorem cw_chooseRow {l : Launch} {D : va_G} {aa : Nat → ClassId} {b0 : Nat} {h : mm_H} {o : Nat} {X : Nat → Nat → Int32} {Y : Nat → Nat → Int64} {rl : Option Nat} {sg n k : Nat} {wv : Nat → Int32} {cs : List Nat} (ha : cm_at o X Y rl h) (hw : wrt_ X sg n wv) (hn : 1 ≤ n ∧ n ≤ 3) (hk : k < 100000) (h0 : 0 < rwN sg wv n) (hc : (wE sg n wv)[k]? = some cs) (hcl : cs.length = n) : mm_V (zz_K l D aa b0) 0 yX10_chooseRow cX10_chooseRow 5 (some .int) 0 [(0, .ref (o + 35)), (1, .int (nI (k)))] [] h 0 0 (fun rv h' => rv = some (.int (nI (oddN cs))) ∧ ∃ X' : Nat → Nat → Int32, cm_at o X' Y rl h' ∧ cm_fr o h h' ∧ (∀ j c, cs[j]? = some c → X' 47 j = nI c) ∧ ∀ b i, b ≠ 47 → X' b i = X b i) := by
  have hf := cm_fr.rf (o := o) (h := h)
  refine mm_iload_n dX10_chooseRow_0 rfl 1 rfl ?_
  refine mm_istore_n (L' := [(2, .int (nI (k))), (0, .ref (o + 35)), (1, .int (nI (k)))]) dX10_chooseRow_1 rfl (by decide) rfl ?_
  refine mm_iconst (v := nI 0) dX10_chooseRow_2 (by decide) ?_
  refine mm_istore_n (L' := [(3, .int (nI (0))), (2, .int (nI (k))), (0, .ref (o + 35)), (1, .int (nI (k)))]) dX10_chooseRow_3 rfl (by decide) rfl ?_
  refine mm_aload_n dX10_chooseRow_4 rfl 2 rfl ?_
  refine cm_getI dX10_chooseRow_5 ha zr_X10_47 (by decide) rfl rfl ?_
  refine mn_top (u := .int (nI (n))) (congrArg Value.int ((hw.2.1))) ?_
  refine mm_iconst (v := nI 1) dX10_chooseRow_8 (by decide) ?_
  refine mm_isub dX10_chooseRow_9 ?_
  refine mn_top (u := .int (nI n + (-1))) (congrArg Value.int (nI_m0)) ?_
  refine mm_istore (L' := [(4, .int (nI n + (-1))), (3, .int (nI (0))), (2, .int (nI (k))), (0, .ref (o + 35)), (1, .int (nI (k)))]) dX10_chooseRow_10 (by decide) rfl ?_
  refine mn_sub [3, 2, 1, 0] rfl ?_
  suffices lp : ∀ (r left : Nat) (pre suf : List Nat) (X1 : Nat → Nat → Int32) (h1 : mm_H), r ≤ n → left ≤ k → pre.length = r → 0 < rwN sg wv r → pre ++ suf = cs → (wE sg r wv)[left]? = some pre → (∀ j c, suf[j]? = some c → X1 47 (r + j) = nI c) → (∀ b i, b ≠ 47 → X1 b i = X b i) → cm_at o X1 Y rl h1 → cm_fr o h h1 → mm_V (zz_K l D aa b0) 0 yX10_chooseRow cX10_chooseRow 5 (some .int) 12 [(0, .ref (o + 35)), (2, .int (nI (left))), (3, .int (nI (oddN suf))), (4, .int (nI r + (-1)))] [] h1 0 0 (fun rv h' => rv = some (.int (nI (oddN cs))) ∧ ∃ X' : Nat → Nat → Int32, cm_at o X' Y rl h' ∧ cm_fr o h h' ∧ (∀ j c, cs[j]? = some c → X' 47 j = nI c) ∧ ∀ b i, b ≠ 47 → X' b i = X b i) from lp n k cs [] X h (Nat.le_refl _) (Nat.le_refl _) hcl h0 (List.append_nil _) hc (fun j c z => by cases z) (fun _ _ _ => rfl) ha hf
  intro r
  induction r with
  | zero =>
    intro left pre suf X1 h1 hrn hlk hpl hr0 hps hE hx hfx ha hf
    have hps : suf = cs := by rw [← hps, List.eq_nil_of_length_eq_zero hpl]; rfl
    refine mm_iload dX10_chooseRow_12 3 rfl ?_
    refine mm_if_lt (tgt := 91) dX10_chooseRow_14 (by decide) (fun c14 => ?_) (fun c14 => ?_)
    · refine mm_iload_n dX10_chooseRow_91 rfl 2 rfl ?_
      rw [← hps]
      exact mm_iret dX10_chooseRow_92 rfl (⟨rfl, X1, ha, hf, fun j c z => by have := hx j c z; rw [Nat.zero_add] at this; exact this, hfx⟩)
    · exact absurd (by decide) c14
  | succ r ih =>
    intro left pre suf X1 h1 hrn hlk hpl hr0 hps hE hx hfx ha hf
    obtain ⟨a, c, hpa, hEa, hca⟩ := wE_s hE hr0
    obtain ⟨hr1, hlp⟩ := rwN_pos hr0
    have hl14 := ftl_len (sg := sg) (wv := wv) (i := r)
    have hm := Nat.mod_lt left hlp
    have hdv := Nat.div_le_self left (ftl sg wv r).length
    have hc14 : c < 14 := ftl_lt (List.mem_of_getElem? hca)
    have hft := hw.2.2.2.1 r (by omega)
    rw [nI_m1]
    refine mm_iload dX10_chooseRow_12 3 rfl ?_
    refine mn_if_lt (tgt := 91) dX10_chooseRow_14 (by decide) (by omega) ?_
    refine mm_iload dX10_chooseRow_17 3 rfl ?_
    refine mm_iconst (v := nI 3) dX10_chooseRow_19 (by decide) ?_
    refine mn_icmp_ge (tgt := 91) dX10_chooseRow_20 (by decide) (by omega) (by omega) (fun c20 => ?_) (fun c20 => ?_)
    · omega
    · refine mm_aload_n dX10_chooseRow_23 rfl 0 rfl ?_
      refine cm_getR (b := 49) dX10_chooseRow_24 ha zr_X10_28 (by decide) rfl rfl rfl ?_
      refine mm_iload dX10_chooseRow_27 3 rfl ?_
      refine cm_iald (i := r) dX10_chooseRow_29 ha (by decide) rfl (by omega) (by decide) ?_
      refine mn_top (u := .int (nI ((ftl sg wv r).length))) (congrArg Value.int ((hfx 49 r (by decide)).trans hft.1)) ?_
      refine mm_iconst (v := nI 1) dX10_chooseRow_30 (by decide) ?_
      refine mn_icmp_ge (tgt := 36) dX10_chooseRow_31 (by decide) (by omega) (by omega) (fun c31 => ?_) (fun c31 => ?_)
      · refine mm_aload_n dX10_chooseRow_36 rfl 0 rfl ?_
        refine cm_getR (b := 47) dX10_chooseRow_37 ha zr_X10_22 (by decide) rfl rfl rfl ?_
        refine mm_iload dX10_chooseRow_40 3 rfl ?_
        refine mm_aload_n dX10_chooseRow_42 rfl 0 rfl ?_
        refine cm_getR (b := 48) dX10_chooseRow_43 ha zr_X10_25 (by decide) rfl rfl rfl ?_
        refine mm_iload dX10_chooseRow_46 3 rfl ?_
        refine mm_bipush (v := nI 14) dX10_chooseRow_48 (by decide) ?_
        refine mn_imul dX10_chooseRow_50 ?_
        refine mm_iload_n dX10_chooseRow_51 rfl 1 rfl ?_
        refine mm_aload_n dX10_chooseRow_52 rfl 0 rfl ?_
        refine cm_getR (b := 49) dX10_chooseRow_53 ha zr_X10_28 (by decide) rfl rfl rfl ?_
        refine mm_iload dX10_chooseRow_56 3 rfl ?_
        refine cm_iald (i := r) dX10_chooseRow_58 ha (by decide) rfl (by omega) (by decide) ?_
        refine mn_top (u := .int (nI ((ftl sg wv r).length))) (congrArg Value.int ((hfx 49 r (by decide)).trans hft.1)) ?_
        refine mn_irem dX10_chooseRow_59 (by omega) (by omega) (by omega) ?_
        refine mn_iadd dX10_chooseRow_60 ?_
        refine cm_iald (i := ((r) * (14)) + ((left) % ((ftl sg wv r).length))) dX10_chooseRow_61 ha (by decide) rfl (by omega) (by decide) ?_
        refine mn_top (u := .int (nI (c))) (congrArg Value.int ((hfx 48 _ (by decide)).trans (hft.2 _ _ hca))) ?_
        refine cm_iast (i := r) dX10_chooseRow_62 ha hf (by decide) rfl (by omega) (by decide) (fun h1 ha hf => ?_)
        refine mm_iload_n dX10_chooseRow_63 rfl 1 rfl ?_
        refine mm_aload_n dX10_chooseRow_64 rfl 0 rfl ?_
        refine cm_getR (b := 49) dX10_chooseRow_65 ha zr_X10_28 (by decide) rfl rfl rfl ?_
        refine mm_iload dX10_chooseRow_68 3 rfl ?_
        refine cm_iald (i := r) dX10_chooseRow_70 ha (by decide) rfl (by omega) (by decide) ?_
        refine mn_top (u := .int (nI ((ftl sg wv r).length))) (congrArg Value.int ((xu_a (by decide)).trans ((hfx 49 r (by decide)).trans hft.1))) ?_
        refine mn_idiv dX10_chooseRow_71 (by omega) (by omega) (by omega) ?_
        refine mm_istore_n (L' := [(2, .int (nI ((left) / ((ftl sg wv r).length)))), (0, .ref (o + 35)), (3, .int (nI (oddN suf))), (4, .int (nI (r)))]) dX10_chooseRow_72 rfl (by decide) rfl ?_
        refine mm_iload_n dX10_chooseRow_73 rfl 2 rfl ?_
        refine mm_aload_n dX10_chooseRow_74 rfl 1 rfl ?_
        refine cm_getR (b := 47) dX10_chooseRow_75 ha zr_X10_22 (by decide) rfl rfl rfl ?_
        refine mm_iload dX10_chooseRow_78 3 rfl ?_
        refine cm_iald (i := r) dX10_chooseRow_80 ha (by decide) rfl (by omega) (by decide) ?_
        refine mn_top (u := .int (nI (c))) (congrArg Value.int (xu_s)) ?_
        refine mm_iconst (v := nI 1) dX10_chooseRow_81 (by decide) ?_
        refine mn_iand dX10_chooseRow_82 ?_
        refine mn_top (u := .int (nI (c % 2))) (congrArg Value.int (by rw [and_1])) ?_
        refine mn_iadd dX10_chooseRow_83 ?_
        refine mm_istore_n (L' := [(3, .int (nI ((oddN suf) + (c % 2)))), (2, .int (nI ((left) / ((ftl sg wv r).length)))), (0, .ref (o + 35)), (4, .int (nI (r)))]) dX10_chooseRow_84 rfl (by decide) rfl ?_
        refine mm_iinc (v := nI (r) + (-1)) (L' := [(4, .int (nI (r) + (-1))), (3, .int (nI ((oddN suf) + (c % 2)))), (2, .int (nI ((left) / ((ftl sg wv r).length)))), (0, .ref (o + 35))]) dX10_chooseRow_85 3 rfl (by rfl) (by decide) rfl ?_
        refine mm_goto (tgt := 12) dX10_chooseRow_88 (by decide) ?_
        refine mn_sub [3, 2, 1, 0] rfl ?_
        have ho : oddN suf + c % 2 = oddN (c :: suf) := by rw [odd_c]; omega
        rw [ho]
        refine ih (left / (ftl sg wv r).length) a (c :: suf) _ _ (by omega) (by omega) ?_ hr1 (by rw [← hps, hpa, List.append_assoc]; rfl) hEa (fun j d hd => ?_) (fun b i hb => (xu_a hb).trans (hfx b i hb)) ha hf
        · rw [hpa, List.length_append] at hpl; exact Nat.succ.inj hpl
        · cases j with
          | zero => rw [show c = d from Option.some.inj hd]; exact xu_s
          | succ j => exact (xu_i (by omega)).trans (by rw [show r + (j + 1) = r + 1 + j by omega]; exact hx j d hd)
      · omega
set_option maxRecDepth 100000 in
set_option maxHeartbeats 4000000 in
theorem cw_putDown {l : Launch} {D : va_G} {aa : Nat → ClassId} {b0 : Nat} {h : mm_H} {o : Nat} {X : Nat → Nat → Int32} {Y : Nat → Nat → Int64} {rl : Option Nat} {n : Nat} {cs : List Nat} (ha : cm_at o X Y rl h) (hw6 : X 35 6 = nI n) (hn : 1 ≤ n ∧ n ≤ 3) (hcl : cs.length = n) (hc : ∀ c ∈ cs, c < 14) (hch : ∀ j c, cs[j]? = some c → X 47 j = nI c) : mm_V (zz_K l D aa b0) 1 yX10_putDown cX10_putDown 2 none 0 [(0, .ref (o + 35))] [] h 0 0 (fun rv h' => rv = none ∧ ∃ X' : Nat → Nat → Int32, cm_at o X' Y rl h' ∧ cm_fr o h h' ∧ vl2 X' (wl cs) ∧ X' 36 8 = nI 1 ∧ (∀ b i, ¬ (b = 36 ∧ i = 8) → ¬ (b = 39 ∧ i = 6) → ¬ (40 ≤ b ∧ b ≤ 45) → X' b i = X b i)) := by
  have hf := cm_fr.rf (o := o) (h := h)
  have hra : rA 39 := Or.inl rfl
  refine mm_aload_n dX10_putDown_0 rfl 0 rfl ?_
  refine cm_getR (b := 36) dX10_putDown_1 ha zr_X10_14 (by decide) rfl rfl rfl ?_
  refine cm_getR (b := 39) dX10_putDown_4 ha zr_X10_75 (by decide) rfl rfl rfl ?_
  refine mm_iconst (v := nI 0) dX10_putDown_7 (by decide) ?_
  refine cm_putI dX10_putDown_8 ha hf zp_X10_79 (by decide) rfl rfl rfl rfl (fun h2 ha hf => ?_)
  refine mm_aload_n dX10_putDown_11 rfl 0 rfl ?_
  refine cm_getR (b := 36) dX10_putDown_12 ha zr_X10_14 (by decide) rfl rfl rfl ?_
  refine mm_iconst (v := nI 1) dX10_putDown_15 (by decide) ?_
  refine cm_putI dX10_putDown_16 ha hf zp_X10_84 (by decide) rfl rfl (by decide) (by decide) (fun h2 ha hf => ?_)
  refine mm_iconst (v := nI 0) dX10_putDown_19 (by decide) ?_
  refine mm_istore_n (L' := [(1, .int (nI (0))), (0, .ref (o + 35))]) dX10_putDown_20 rfl (by decide) rfl ?_
  refine mn_sub [1, 0] rfl ?_
  suffices lp : ∀ (suf pre : List Nat) (i : Nat) (X1 : Nat → Nat → Int32) (h1 : mm_H), pre ++ suf = cs → pre.length = i → vl2 X1 (wl pre) → X1 36 8 = nI 1 → (∀ b i, ¬ (b = 36 ∧ i = 8) → ¬ (b = 39 ∧ i = 6) → ¬ (40 ≤ b ∧ b ≤ 45) → X1 b i = X b i) → cm_at o X1 Y rl h1 → cm_fr o h h1 → mm_V (zz_K l D aa b0) 1 yX10_putDown cX10_putDown 2 none 21 [(0, .ref (o + 35)), (1, .int (nI (i)))] [] h1 0 0 (fun rv h' => rv = none ∧ ∃ X' : Nat → Nat → Int32, cm_at o X' Y rl h' ∧ cm_fr o h h' ∧ vl2 X' (wl cs) ∧ X' 36 8 = nI 1 ∧ (∀ b i, ¬ (b = 36 ∧ i = 8) → ¬ (b = 39 ∧ i = 6) → ¬ (40 ≤ b ∧ b ≤ 45) → X' b i = X b i)) from lp cs [] 0 (xu (xu X 39 6 (nI (0))) 36 8 (nI (1))) _ rfl rfl ⟨(xu_a (by decide)).trans xu_s, fun i hi => absurd hi (Nat.not_lt_zero _)⟩ xu_s (fun b i n1 n2 n3 => (xu_z n1).trans (xu_z n2)) ha hf
  intro suf
  induction suf with
  | nil =>
    intro pre i X1 h1 hps hpl hvl h8 hfx ha hf
    have hlc : (pre ++ []).length = n := by rw [hps]; exact hcl
    rw [List.length_append] at hlc
    have hlc : pre.length + 0 = n := hlc
    refine mm_iload_n dX10_putDown_21 rfl 1 rfl ?_
    refine mm_aload_n dX10_putDown_22 rfl 0 rfl ?_
    refine cm_getI dX10_putDown_23 ha zr_X10_47 (by decide) rfl rfl ?_
    refine mn_top (u := .int (nI (n))) (congrArg Value.int (((hfx 35 6 (by decide) (by decide) (by decide)).trans hw6))) ?_
    refine mn_icmp_ge (tgt := 87) dX10_putDown_26 (by decide) (by omega) (by omega) (fun c26 => ?_) (fun c26 => ?_)
    · rw [List.append_nil] at hps
      rw [← hps]
      exact mm_vret dX10_putDown_87 rfl (⟨rfl, X1, ha, hf, hvl, h8, hfx⟩)
    · omega
  | cons c suf ih =>
    intro pre i X1 h1 hps hpl hvl h8 hfx ha hf
    have hlc : (pre ++ (c :: suf)).length = n := by rw [hps]; exact hcl
    rw [List.length_append] at hlc
    rw [List.length_cons] at hlc
    refine mm_iload_n dX10_putDown_21 rfl 1 rfl ?_
    refine mm_aload_n dX10_putDown_22 rfl 0 rfl ?_
    refine cm_getI dX10_putDown_23 ha zr_X10_47 (by decide) rfl rfl ?_
    refine mn_top (u := .int (nI (n))) (congrArg Value.int (((hfx 35 6 (by decide) (by decide) (by decide)).trans hw6))) ?_
    refine mn_icmp_ge (tgt := 87) dX10_putDown_26 (by decide) (by omega) (by omega) (fun c26 => ?_) (fun c26 => ?_)
    · omega
    · refine mm_iload_n dX10_putDown_29 rfl 1 rfl ?_
      refine mm_iconst (v := nI 3) dX10_putDown_30 (by decide) ?_
      refine mn_icmp_ge (tgt := 87) dX10_putDown_31 (by decide) (by omega) (by omega) (fun c31 => ?_) (fun c31 => ?_)
      · omega
      · have hci : cs[i]? = some c := by rw [← hps, List.getElem?_append_right (by omega), hpl, Nat.sub_self]; rfl
        have hx47 : X1 47 i = nI c := (hfx 47 i (by omega) (by omega) (by omega)).trans (hch i c hci)
        have hc14 : c < 14 := hc _ (List.mem_of_getElem? hci)
        have hwl := wl_len pre
        refine mm_aload_n dX10_putDown_34 rfl 0 rfl ?_
        refine cm_getR (b := 36) dX10_putDown_35 ha zr_X10_14 (by decide) rfl rfl rfl ?_
        refine cm_getR (b := 39) dX10_putDown_38 ha zr_X10_75 (by decide) rfl rfl rfl ?_
        refine mm_iconst (v := nI 1) dX10_putDown_41 (by decide) ?_
        refine mm_aload_n dX10_putDown_42 rfl 0 rfl ?_
        refine cm_getR (b := 47) dX10_putDown_43 ha zr_X10_22 (by decide) rfl rfl rfl ?_
        refine mm_iload_n dX10_putDown_46 rfl 1 rfl ?_
        refine cm_iald (i := i) dX10_putDown_47 ha (by decide) rfl (by omega) (by decide) ?_
        refine mn_top (u := .int (nI (c))) (congrArg Value.int ((hx47))) ?_
        refine mm_iconst (v := nI 1) dX10_putDown_48 (by decide) ?_
        refine mn_ishr dX10_putDown_49 (by omega) (by omega) ?_
        refine mn_top (u := .int (nI (c / 2))) (congrArg Value.int (by rw [shr_1])) ?_
        refine mm_iconst (v := nI 0) dX10_putDown_50 (by decide) ?_
        refine mm_iconst (v := nI 0) dX10_putDown_51 (by decide) ?_
        refine cm_callV (As := [.int (nI (1)), .int (nI (c / 2)), .int (nI (0)), .int (nI (Bool.toNat (false)))]) (rest := []) (d2 := 0) dX10_putDown_52 ha (by decide) rfl zz_clX6 zc_X10_88 zs_X6_add rfl rfl (Nat.le_of_ble_eq_true rfl) (Nat.le_of_ble_eq_true rfl) (by decide) (cr_add (r := 39) (sz := (wl pre).length) (c := false) ha hra hvl.1 (by omega)) (fun r h1 hq => ?_)
        obtain ⟨rfl, ha, hf'⟩ := hq
        have hf := hf.tr hf'
        generalize hX2 : xu (xu (xu (xu (xu (xu (xu X1 (39 + 1) (wl pre).length (nI 1)) (39 + 2) (wl pre).length (nI (c / 2))) (39 + 3) (wl pre).length (nI 0)) (39 + 4) (wl pre).length (nI (Bool.toNat false))) (39 + 5) (wl pre).length (X1 39 7)) (39 + 6) (wl pre).length (X1 39 8)) 39 6 (nI ((wl pre).length + 1)) = X2 at ha
        have hvl2 : vl2 X2 (wl pre ++ [(1, c / 2)]) := by
          refine vl2_s hvl ?_ ?_ ?_ ?_ (fun b i n1 n2 => ?_)
          · rw [← hX2]; exact xu_s
          · rw [← hX2, xu_a (by decide), xu_a (by decide), xu_a (by decide), xu_a (by decide), xu_a (by decide), xu_a (by decide)]; exact xu_s
          · rw [← hX2, xu_a (by decide), xu_a (by decide), xu_a (by decide), xu_a (by decide), xu_a (by decide)]; exact xu_s
          · rw [← hX2, xu_a (by decide), xu_a (by decide), xu_a (by decide)]; exact xu_s
          · rw [← hX2, xu_a n1, xu_i n2, xu_i n2, xu_i n2, xu_i n2, xu_i n2, xu_i n2]
        have hfx2 : (∀ b i, ¬ (b = 36 ∧ i = 8) → ¬ (b = 39 ∧ i = 6) → ¬ (40 ≤ b ∧ b ≤ 45) → X2 b i = X b i) := fun b i n1 n2 n3 => by
          rw [← hX2, xu_z n2, xu_a (by omega), xu_a (by omega), xu_a (by omega), xu_a (by omega), xu_a (by omega), xu_a (by omega)]; exact hfx b i n1 n2 n3
        have h82 : X2 36 8 = nI 1 := by rw [← hX2, xu_a (by decide), xu_a (by decide), xu_a (by decide), xu_a (by decide), xu_a (by decide), xu_a (by decide), xu_a (by decide)]; exact h8
        have hl2 : (wl pre ++ [(1, c / 2)]).length = (wl pre).length + 1 := by rw [List.length_append]; rfl
        have hx472 : X2 47 i = nI c := (hfx2 47 i (by omega) (by omega) (by omega)).trans (hch i c hci)
        have hpl2 : (pre ++ [c]).length = i + 1 := by rw [List.length_append, hpl]; rfl
        have hps2 : (pre ++ [c]) ++ suf = cs := by rw [List.append_assoc]; exact hps
        refine mm_aload_n dX10_putDown_55 rfl 0 rfl ?_
        refine cm_getR (b := 47) dX10_putDown_56 ha zr_X10_22 (by decide) rfl rfl rfl ?_
        refine mm_iload_n dX10_putDown_59 rfl 1 rfl ?_
        refine cm_iald (i := i) dX10_putDown_60 ha (by decide) rfl (by omega) (by decide) ?_
        refine mn_top (u := .int (nI (c))) (congrArg Value.int ((hx472))) ?_
        refine mm_iconst (v := nI 1) dX10_putDown_61 (by decide) ?_
        refine mn_iand dX10_putDown_62 ?_
        refine mn_top (u := .int (nI (c % 2))) (congrArg Value.int (by rw [and_1])) ?_
        refine mm_iconst (v := nI 1) dX10_putDown_63 (by decide) ?_
        refine mn_icmp_ne (tgt := 81) dX10_putDown_64 (by decide) (by omega) (by omega) (fun c64 => ?_) (fun c64 => ?_)
        · have hw2 : wl (pre ++ [c]) = wl pre ++ [(1, c / 2)] := by rw [wl_app, wl_cons, if_neg c64]; rfl
          refine mn_iinc (m := 1) (L' := [(1, .int (nI (i + 1))), (0, .ref (o + 35))]) dX10_putDown_81 (by decide) 1 rfl (by decide) rfl ?_
          refine mm_goto (tgt := 21) dX10_putDown_84 (by decide) ?_
          refine mn_sub [1, 0] rfl ?_
          exact ih (pre ++ [c]) (i + 1) X2 _ hps2 hpl2 (by rw [hw2]; exact hvl2) h82 hfx2 ha hf
        · have hw2 : wl (pre ++ [c]) = (wl pre ++ [(1, c / 2)]) ++ [(3, 0)] := by rw [wl_app, wl_cons, if_pos c64, List.append_assoc]; rfl
          refine mm_aload_n dX10_putDown_67 rfl 0 rfl ?_
          refine cm_getR (b := 36) dX10_putDown_68 ha zr_X10_14 (by decide) rfl rfl rfl ?_
          refine cm_getR (b := 39) dX10_putDown_71 ha zr_X10_75 (by decide) rfl rfl rfl ?_
          refine mm_iconst (v := nI 3) dX10_putDown_74 (by decide) ?_
          refine mm_iconst (v := (-1)) dX10_putDown_75 (by decide) ?_
          refine mm_iconst (v := (-1)) dX10_putDown_76 (by decide) ?_
          refine mm_iconst (v := nI 0) dX10_putDown_77 (by decide) ?_
          refine cm_callV (As := [.int (nI (3)), .int ((-1)), .int ((-1)), .int (nI (Bool.toNat (false)))]) (rest := []) (d2 := 0) dX10_putDown_78 ha (by decide) rfl zz_clX6 zc_X10_88 zs_X6_add rfl rfl (Nat.le_of_ble_eq_true rfl) (Nat.le_of_ble_eq_true rfl) (by decide) (cr_add (r := 39) (sz := (wl pre).length + 1) (c := false) ha hra (hvl2.1.trans (by rw [hl2])) (by omega)) (fun r h1 hq => ?_)
          obtain ⟨rfl, ha, hf'⟩ := hq
          have hf := hf.tr hf'
          generalize hX3 : xu (xu (xu (xu (xu (xu (xu X2 (39 + 1) ((wl pre).length + 1) (nI 3)) (39 + 2) ((wl pre).length + 1) (-1)) (39 + 3) ((wl pre).length + 1) (-1)) (39 + 4) ((wl pre).length + 1) (nI (Bool.toNat false))) (39 + 5) ((wl pre).length + 1) (X2 39 7)) (39 + 6) ((wl pre).length + 1) (X2 39 8)) 39 6 (nI ((wl pre).length + 1 + 1)) = X3 at ha
          rw [← hl2] at hX3
          have hvl3 : vl2 X3 ((wl pre ++ [(1, c / 2)]) ++ [(3, 0)]) := by
            refine vl2_s hvl2 ?_ ?_ ?_ ?_ (fun b i n1 n2 => ?_)
            · rw [← hX3]; exact xu_s
            · rw [← hX3, xu_a (by decide), xu_a (by decide), xu_a (by decide), xu_a (by decide), xu_a (by decide), xu_a (by decide)]; exact xu_s
            · rw [← hX3, xu_a (by decide), xu_a (by decide), xu_a (by decide), xu_a (by decide), xu_a (by decide)]; exact xu_s
            · rw [← hX3, xu_a (by decide), xu_a (by decide), xu_a (by decide)]; exact xu_s
            · rw [← hX3, xu_a n1, xu_i n2, xu_i n2, xu_i n2, xu_i n2, xu_i n2, xu_i n2]
          have hfx3 : (∀ b i, ¬ (b = 36 ∧ i = 8) → ¬ (b = 39 ∧ i = 6) → ¬ (40 ≤ b ∧ b ≤ 45) → X3 b i = X b i) := fun b i n1 n2 n3 => by
            rw [← hX3, xu_z n2, xu_a (by omega), xu_a (by omega), xu_a (by omega), xu_a (by omega), xu_a (by omega), xu_a (by omega)]; exact hfx2 b i n1 n2 n3
          have h83 : X3 36 8 = nI 1 := by rw [← hX3, xu_a (by decide), xu_a (by decide), xu_a (by decide), xu_a (by decide), xu_a (by decide), xu_a (by decide), xu_a (by decide)]; exact h82
          refine mn_iinc (m := 1) (L' := [(1, .int (nI (i + 1))), (0, .ref (o + 35))]) dX10_putDown_81 (by decide) 1 rfl (by decide) rfl ?_
          refine mm_goto (tgt := 21) dX10_putDown_84 (by decide) ?_
          refine mn_sub [1, 0] rfl ?_
          exact ih (pre ++ [c]) (i + 1) X3 _ hps2 hpl2 (by rw [hw2]; exact hvl3) h83 hfx3 ha hf
