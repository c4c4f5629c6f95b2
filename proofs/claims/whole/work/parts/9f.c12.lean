/-! Reader: what leaves no choice -/
theorem ct_len {X : Nat → Nat → Int32} {w : ro_w} {sg g : Nat} : ∀ {ts : List gK} {t : Nat}, ct_ X w sg g ts t → ts.length ≤ t
  | [], _, _ => Nat.zero_le _
  | u :: r, t, h => by
    obtain ⟨-, -, -, -, -, t', h1, -, h2⟩ := h
    have := ct_len h2
    rw [List.length_cons]
    omega
set_option maxRecDepth 100000 in
set_option maxHeartbeats 4000000 in
theorem cR_settle {l : Launch} {D : va_G} {aa : Nat → ClassId} {b0 : Nat} {h : mm_H} {o : Nat} {X : Nat → Nat → Int32} {Y : Nat → Nat → Int64} {rl : Option Nat} {w : ro_w} {sg a dt : Nat} {E U P H PL RS CO AL LI : Nat → Nat} {m t c : Nat} {ts : List gK} {fs vs : List Nat} (ha : cm_at o X Y rl h) (hva : vA a) (hrq : rq_ X w sg a dt E U P H PL RS CO AL LI) (hm : X 4 6 = nI m) (hm8 : m ≤ 128) (htk : X 3 10 = nI t) (hct : ct_ X w sg (gd_ sg) ts t) (htm : t < m) (hdr : dr_ X fs vs c) (hv24 : vs.length ≤ 24) (hwf : wf_ (gd_ sg) ts) (hlr : lr_ w sg (gd_ sg) ts vs.length fs.length) : mm_V (zz_K l D aa b0) 2 yX5_settle cX5_settle 4 none 0 [(0, .ref (o + 3)), (1, .ref (o + (a + 3)))] [] h 0 0 (fun rv h' => rv = none ∧ ∃ (X' : Nat → Nat → Int32) (t' : Nat), cm_at o X' Y rl h' ∧ cm_fr o h h' ∧ rx_ m fs.length vs.length X X' ∧ X' 3 10 = nI t' ∧ X' 4 6 = nI m ∧ t' < m ∧ ct_ X' w sg (gd_ sg) (ss_ w ts.length ts vs.length).1 t' ∧ dr_ X' (fs ++ (ss_ w ts.length ts vs.length).2.2.1.1) (vs ++ (ss_ w ts.length ts vs.length).2.2.1.2) (c * (ss_ w ts.length ts vs.length).2.2.2)) := by
  have h24 := hrq.2.2.1.1.2
  have lp : ∀ (n : Nat) (us : List gK) (i : Nat) (fs1 vs1 : List Nat) (c1 t1 : Nat) (X1 : Nat → Nat → Int32) (h1 : mm_H), us.length ≤ n → n + i ≤ 127 → (ss_ w n us vs1.length).1 = (ss_ w ts.length ts vs.length).1 → fs1 ++ (ss_ w n us vs1.length).2.2.1.1 = fs ++ (ss_ w ts.length ts vs.length).2.2.1.1 → vs1 ++ (ss_ w n us vs1.length).2.2.1.2 = vs ++ (ss_ w ts.length ts vs.length).2.2.1.2 → c1 * (ss_ w n us vs1.length).2.2.2 = c * (ss_ w ts.length ts vs.length).2.2.2 → wf_ (gd_ sg) us → lr_ w sg (gd_ sg) us vs1.length fs1.length → rq_ X1 w sg a dt E U P H PL RS CO AL LI → X1 4 6 = nI m → X1 3 10 = nI t1 → ct_ X1 w sg (gd_ sg) us t1 → t1 < m → dr_ X1 fs1 vs1 c1 → rx_ m fs.length vs.length X X1 → fs.length ≤ fs1.length → vs.length ≤ vs1.length → vs1.length ≤ 24 → cm_at o X1 Y rl h1 → cm_fr o h h1 → mm_V (zz_K l D aa b0) 2 yX5_settle cX5_settle 4 none 2 [(2, .int (nI (i))), (0, .ref (o + 3)), (1, .ref (o + (a + 3)))] [] h1 0 0 (fun rv h' => rv = none ∧ ∃ (X' : Nat → Nat → Int32) (t' : Nat), cm_at o X' Y rl h' ∧ cm_fr o h h' ∧ rx_ m fs.length vs.length X X' ∧ X' 3 10 = nI t' ∧ X' 4 6 = nI m ∧ t' < m ∧ ct_ X' w sg (gd_ sg) (ss_ w ts.length ts vs.length).1 t' ∧ dr_ X' (fs ++ (ss_ w ts.length ts vs.length).2.2.1.1) (vs ++ (ss_ w ts.length ts vs.length).2.2.1.2) (c * (ss_ w ts.length ts vs.length).2.2.2)) := by
    intro n
    induction n with
    | zero =>
      intro us i fs1 vs1 c1 t1 X1 h1 hul hni eT eF eV eC hwf hlr hrq hm htk hct htm hdr hrx hf1 hv1 hv24 ha hf
      cases us with
      | nil =>
        have e0 : t1 = 0 := hct
        refine mm_iload_n dX5_settle_2 rfl 0 rfl ?_
        refine mm_sipush (v := nI 128) dX5_settle_3 (by decide) ?_
        refine mn_icmp_ge (tgt := 119) dX5_settle_6 (by decide) (by omega) (by omega) (fun c6 => ?_) (fun c6 => ?_)
        · first | omega | exact absurd rfl c6 | exact absurd c6 (by decide)
        · refine mm_aload_n dX5_settle_9 rfl 1 rfl ?_
          refine cm_getR (b := 4) dX5_settle_10 ha zr_X5_14 (by decide) rfl rfl rfl ?_
          refine mm_aload_n dX5_settle_13 rfl 1 rfl ?_
          refine cm_getI dX5_settle_14 ha zr_X5_109 (by decide) rfl rfl ?_
          refine mn_top (u := .int (nI (t1))) (congrArg Value.int ((htk))) ?_
          refine cm_callVr (As := [.int (nI (t1))]) (rest := []) (d2 := 0) dX5_settle_17 ha (by decide) rfl zz_clX0 zc_X5_112 zs_X0_sortOf rfl rfl (Nat.le_of_ble_eq_true rfl) (Nat.le_of_ble_eq_true rfl) (by decide) (cc_sortOf ha (by omega)) ?_
          refine mn_top (u := .int (nI (0))) (congrArg Value.int (by rw [if_pos (by omega), e0]; exact hrq.2.1.1)) ?_
          refine mm_istore_n (L' := [(3, .int (nI (0))), (2, .int (nI (i))), (0, .ref (o + 3)), (1, .ref (o + (a + 3)))]) dX5_settle_20 rfl (by decide) rfl ?_
          refine mm_iload_n dX5_settle_21 rfl 0 rfl ?_
          refine mm_iconst (v := nI 4) dX5_settle_22 (by decide) ?_
          refine mn_icmp_ne (tgt := 47) dX5_settle_23 (by decide) (by omega) (by omega) (fun c23 => ?_) (fun c23 => ?_)
          · refine mm_iload_n dX5_settle_47 rfl 0 rfl ?_
            refine mm_iconst (v := nI 5) dX5_settle_48 (by decide) ?_
            refine mn_icmp_ne (tgt := 73) dX5_settle_49 (by decide) (by omega) (by omega) (fun c49 => ?_) (fun c49 => ?_)
            · refine mm_iload_n dX5_settle_73 rfl 0 rfl ?_
              refine mm_bipush (v := nI 6) dX5_settle_74 (by decide) ?_
              refine mn_icmp_eq (tgt := 80) dX5_settle_76 (by decide) (by omega) (by omega) (fun c76 => ?_) (fun c76 => ?_)
              · first | omega | exact absurd rfl c76 | exact absurd c76 (by decide)
              · exact mm_vret dX5_settle_79 rfl (⟨rfl, X1, t1, ha, hf, hrx, htk, hm, htm, by rw [← eT]; exact hct, by rw [← eF, ← eV, ← eC]; show dr_ X1 (fs1 ++ []) (vs1 ++ []) (c1 * 1); rw [List.append_nil, List.append_nil, Nat.mul_one]; exact hdr⟩)
            · first | omega | exact absurd rfl c49 | exact absurd c49 (by decide)
          · first | omega | exact absurd rfl c23 | exact absurd c23 (by decide)
      | cons u r =>
        rw [List.length_cons] at hul
        omega
    | succ n ih =>
      intro us i fs1 vs1 c1 t1 X1 h1 hul hni eT eF eV eC hwf hlr hrq hm htk hct htm hdr hrx hf1 hv1 hv24 ha hf
      cases us with
      | nil =>
        have e0 : t1 = 0 := hct
        refine mm_iload_n dX5_settle_2 rfl 0 rfl ?_
        refine mm_sipush (v := nI 128) dX5_settle_3 (by decide) ?_
        refine mn_icmp_ge (tgt := 119) dX5_settle_6 (by decide) (by omega) (by omega) (fun c6 => ?_) (fun c6 => ?_)
        · first | omega | exact absurd rfl c6 | exact absurd c6 (by decide)
        · refine mm_aload_n dX5_settle_9 rfl 1 rfl ?_
          refine cm_getR (b := 4) dX5_settle_10 ha zr_X5_14 (by decide) rfl rfl rfl ?_
          refine mm_aload_n dX5_settle_13 rfl 1 rfl ?_
          refine cm_getI dX5_settle_14 ha zr_X5_109 (by decide) rfl rfl ?_
          refine mn_top (u := .int (nI (t1))) (congrArg Value.int ((htk))) ?_
          refine cm_callVr (As := [.int (nI (t1))]) (rest := []) (d2 := 0) dX5_settle_17 ha (by decide) rfl zz_clX0 zc_X5_112 zs_X0_sortOf rfl rfl (Nat.le_of_ble_eq_true rfl) (Nat.le_of_ble_eq_true rfl) (by decide) (cc_sortOf ha (by omega)) ?_
          refine mn_top (u := .int (nI (0))) (congrArg Value.int (by rw [if_pos (by omega), e0]; exact hrq.2.1.1)) ?_
          refine mm_istore_n (L' := [(3, .int (nI (0))), (2, .int (nI (i))), (0, .ref (o + 3)), (1, .ref (o + (a + 3)))]) dX5_settle_20 rfl (by decide) rfl ?_
          refine mm_iload_n dX5_settle_21 rfl 0 rfl ?_
          refine mm_iconst (v := nI 4) dX5_settle_22 (by decide) ?_
          refine mn_icmp_ne (tgt := 47) dX5_settle_23 (by decide) (by omega) (by omega) (fun c23 => ?_) (fun c23 => ?_)
          · refine mm_iload_n dX5_settle_47 rfl 0 rfl ?_
            refine mm_iconst (v := nI 5) dX5_settle_48 (by decide) ?_
            refine mn_icmp_ne (tgt := 73) dX5_settle_49 (by decide) (by omega) (by omega) (fun c49 => ?_) (fun c49 => ?_)
            · refine mm_iload_n dX5_settle_73 rfl 0 rfl ?_
              refine mm_bipush (v := nI 6) dX5_settle_74 (by decide) ?_
              refine mn_icmp_eq (tgt := 80) dX5_settle_76 (by decide) (by omega) (by omega) (fun c76 => ?_) (fun c76 => ?_)
              · first | omega | exact absurd rfl c76 | exact absurd c76 (by decide)
              · exact mm_vret dX5_settle_79 rfl (⟨rfl, X1, t1, ha, hf, hrx, htk, hm, htm, by rw [← eT]; exact hct, by rw [← eF, ← eV, ← eC]; show dr_ X1 (fs1 ++ []) (vs1 ++ []) (c1 * 1); rw [List.append_nil, List.append_nil, Nat.mul_one]; exact hdr⟩)
            · first | omega | exact absurd rfl c49 | exact absurd c49 (by decide)
          · first | omega | exact absurd rfl c23 | exact absurd c23 (by decide)
      | cons u r =>
        have hlen : r.length ≤ n := by rw [List.length_cons] at hul; omega
        have hs7 := hwf.1 u List.mem_cons_self
        obtain ⟨⟨ht0, ht8⟩, h5, h6, h7, -, t2, ht2, h8, hct2⟩ := id hct
        have hkk := wf_kk hwf
        by_cases k1 : u.1 = 1 ∨ u.1 = 2 ∨ u.1 = 3
        · have ess : ss_ w (n + 1) (u :: r) vs1.length = (u :: r, vs1.length, ([], []), 1) := by rw [ss_cons, if_neg (by omega), if_neg (by omega), if_neg (by omega)]
          rw [ess] at eT eF eV eC
          refine mm_iload_n dX5_settle_2 rfl 0 rfl ?_
          refine mm_sipush (v := nI 128) dX5_settle_3 (by decide) ?_
          refine mn_icmp_ge (tgt := 119) dX5_settle_6 (by decide) (by omega) (by omega) (fun c6 => ?_) (fun c6 => ?_)
          · first | omega | exact absurd rfl c6 | exact absurd c6 (by decide)
          · refine mm_aload_n dX5_settle_9 rfl 1 rfl ?_
            refine cm_getR (b := 4) dX5_settle_10 ha zr_X5_14 (by decide) rfl rfl rfl ?_
            refine mm_aload_n dX5_settle_13 rfl 1 rfl ?_
            refine cm_getI dX5_settle_14 ha zr_X5_109 (by decide) rfl rfl ?_
            refine mn_top (u := .int (nI (t1))) (congrArg Value.int ((htk))) ?_
            refine cm_callVr (As := [.int (nI (t1))]) (rest := []) (d2 := 0) dX5_settle_17 ha (by decide) rfl zz_clX0 zc_X5_112 zs_X0_sortOf rfl rfl (Nat.le_of_ble_eq_true rfl) (Nat.le_of_ble_eq_true rfl) (by decide) (cc_sortOf ha (by omega)) ?_
            refine mn_top (u := .int (nI (u.1))) (congrArg Value.int (by rw [if_pos ht8, h5, if_neg (by omega)])) ?_
            refine mm_istore_n (L' := [(3, .int (nI (u.1))), (2, .int (nI (i))), (0, .ref (o + 3)), (1, .ref (o + (a + 3)))]) dX5_settle_20 rfl (by decide) rfl ?_
            refine mm_iload_n dX5_settle_21 rfl 0 rfl ?_
            refine mm_iconst (v := nI 4) dX5_settle_22 (by decide) ?_
            refine mn_icmp_ne (tgt := 47) dX5_settle_23 (by decide) (by omega) (by omega) (fun c23 => ?_) (fun c23 => ?_)
            · refine mm_iload_n dX5_settle_47 rfl 0 rfl ?_
              refine mm_iconst (v := nI 5) dX5_settle_48 (by decide) ?_
              refine mn_icmp_ne (tgt := 73) dX5_settle_49 (by decide) (by omega) (by omega) (fun c49 => ?_) (fun c49 => ?_)
              · refine mm_iload_n dX5_settle_73 rfl 0 rfl ?_
                refine mm_bipush (v := nI 6) dX5_settle_74 (by decide) ?_
                refine mn_icmp_eq (tgt := 80) dX5_settle_76 (by decide) (by omega) (by omega) (fun c76 => ?_) (fun c76 => ?_)
                · first | omega | exact absurd rfl c76 | exact absurd c76 (by decide)
                · exact mm_vret dX5_settle_79 rfl (⟨rfl, X1, t1, ha, hf, hrx, htk, hm, htm, by rw [← eT]; exact hct, by rw [← eF, ← eV, ← eC]; show dr_ X1 (fs1 ++ []) (vs1 ++ []) (c1 * 1); rw [List.append_nil, List.append_nil, Nat.mul_one]; exact hdr⟩)
              · first | omega | exact absurd rfl c49 | exact absurd c49 (by decide)
            · first | omega | exact absurd rfl c23 | exact absurd c23 (by decide)
        · by_cases k4 : u.1 = 4 ∨ u.1 = 7
          · have ess := ss_cons (w := w) (n := n) (t := u) (r := r) (p := vs1.length)
            rw [if_pos k4] at ess
            rw [ess] at eT eF eV eC
            obtain ⟨hpw, hlr⟩ := sl_4 k4 hkk hlr
            refine mm_iload_n dX5_settle_2 rfl 0 rfl ?_
            refine mm_sipush (v := nI 128) dX5_settle_3 (by decide) ?_
            refine mn_icmp_ge (tgt := 119) dX5_settle_6 (by decide) (by omega) (by omega) (fun c6 => ?_) (fun c6 => ?_)
            · first | omega | exact absurd rfl c6 | exact absurd c6 (by decide)
            · refine mm_aload_n dX5_settle_9 rfl 1 rfl ?_
              refine cm_getR (b := 4) dX5_settle_10 ha zr_X5_14 (by decide) rfl rfl rfl ?_
              refine mm_aload_n dX5_settle_13 rfl 1 rfl ?_
              refine cm_getI dX5_settle_14 ha zr_X5_109 (by decide) rfl rfl ?_
              refine mn_top (u := .int (nI (t1))) (congrArg Value.int ((htk))) ?_
              refine cm_callVr (As := [.int (nI (t1))]) (rest := []) (d2 := 0) dX5_settle_17 ha (by decide) rfl zz_clX0 zc_X5_112 zs_X0_sortOf rfl rfl (Nat.le_of_ble_eq_true rfl) (Nat.le_of_ble_eq_true rfl) (by decide) (cc_sortOf ha (by omega)) ?_
              refine mn_top (u := .int (nI (4))) (congrArg Value.int (by rw [if_pos ht8, h5]; rcases k4 with e | e <;> first | rw [if_pos e] | rw [if_neg (by omega), e])) ?_
              refine mm_istore_n (L' := [(3, .int (nI (4))), (2, .int (nI (i))), (0, .ref (o + 3)), (1, .ref (o + (a + 3)))]) dX5_settle_20 rfl (by decide) rfl ?_
              refine mm_iload_n dX5_settle_21 rfl 0 rfl ?_
              refine mm_iconst (v := nI 4) dX5_settle_22 (by decide) ?_
              refine mn_icmp_ne (tgt := 47) dX5_settle_23 (by decide) (by omega) (by omega) (fun c23 => ?_) (fun c23 => ?_)
              · first | omega | exact absurd rfl c23 | exact absurd c23 (by decide)
              · refine mm_aload_n dX5_settle_26 rfl 2 rfl ?_
                refine cm_getR (b := 25) dX5_settle_27 ha zr_X5_28 (by decide) rfl rfl rfl ?_
                refine mm_aload_n dX5_settle_30 rfl 2 rfl ?_
                refine cm_getR (b := 4) dX5_settle_31 ha zr_X5_14 (by decide) rfl rfl rfl ?_
                refine mm_aload_n dX5_settle_34 rfl 2 rfl ?_
                refine cm_getI dX5_settle_35 ha zr_X5_109 (by decide) rfl rfl ?_
                refine mn_top (u := .int (nI (t1))) (congrArg Value.int ((htk))) ?_
                refine cm_callVr (As := [.int (nI (t1))]) (rest := [.ref (o + 25)]) (d2 := 0) dX5_settle_38 ha (by decide) rfl zz_clX0 zc_X5_258 zs_X0_worthOf rfl rfl (Nat.le_of_ble_eq_true rfl) (Nat.le_of_ble_eq_true rfl) (by decide) (cc_worthOf ha (by omega)) ?_
                refine mn_top (u := .int (nI (u.2.2))) (congrArg Value.int (by rw [if_pos ht8]; exact h7 (by omega))) ?_
                refine cm_callV (As := [.int (nI (u.2.2))]) (rest := []) (d2 := 0) dX5_settle_41 ha (by decide) rfl zz_clX1 zc_X5_230 zs_X1_take rfl rfl (Nat.le_of_ble_eq_true rfl) (Nat.le_of_ble_eq_true rfl) (by decide) (cd_take ha hdr.1.2.2.1 (by omega)) (fun r h1 hq => ?_)
                obtain ⟨rfl, ha, hf'⟩ := hq
                have hf := hf.tr hf'
                obtain ⟨X2, ha, hrx', hdr, hlo⟩ := tk_pack ha hdr
                have hrx := hrx.tr (hrx' m) (Nat.le_refl _) (by omega) (by omega)
                have hrq := (hrx' m).q (by omega) hva hrq
                have hct2 := ct_x hct2 (fun b i h1 h2 h3 => hlo b i (by omega))
                have hm := (hlo 4 6 (by decide)).trans hm
                refine mm_goto (tgt := 80) dX5_settle_44 (by decide) ?_
                refine mm_aload_n dX5_settle_80 rfl 2 rfl ?_
                refine mm_iload_n dX5_settle_81 rfl 0 rfl ?_
                refine mm_bipush (v := nI 6) dX5_settle_82 (by decide) ?_
                refine mn_icmp_ne (tgt := 99) dX5_settle_84 (by decide) (by omega) (by omega) (fun c84 => ?_) (fun c84 => ?_)
                · refine mm_aload_n dX5_settle_99 rfl 2 rfl ?_
                  refine cm_getR (b := 4) dX5_settle_100 ha zr_X5_14 (by decide) rfl rfl rfl ?_
                  refine mm_aload_n dX5_settle_103 rfl 2 rfl ?_
                  refine cm_getI dX5_settle_104 ha zr_X5_109 (by decide) rfl rfl ?_
                  refine mn_top (u := .int (nI (t1))) (congrArg Value.int (((hlo 3 10 (by decide)).trans htk))) ?_
                  refine cm_callVr (As := [.int (nI (t1))]) (rest := [.ref (o + 3)]) (d2 := 0) dX5_settle_107 ha (by decide) rfl zz_clX0 zc_X5_177 zs_X0_restOf rfl rfl (Nat.le_of_ble_eq_true rfl) (Nat.le_of_ble_eq_true rfl) (by decide) (cc_restOf ha (by omega)) ?_
                  refine mn_top (u := .int (nI (t2))) (congrArg Value.int (by rw [if_pos ht8]; exact (hlo _ _ (by decide)).trans h8)) ?_
                  refine cm_putI dX5_settle_110 ha hf zp_X5_109 (by decide) rfl rfl rfl rfl (fun h1 ha hf => ?_)
                  refine mn_iinc (m := 1) (L' := [(2, .int (nI (i + 1))), (3, .int (nI (4))), (0, .ref (o + 3)), (1, .ref (o + (a + 3)))]) dX5_settle_113 (by decide) 1 rfl (by decide) rfl ?_
                  refine mm_goto (tgt := 2) dX5_settle_116 (by decide) ?_
                  refine mn_sub [0, 2, 3] rfl ?_
                  exact ih r (i + 1) fs1 (vs1 ++ [u.2.2]) c1 t2 _ _ hlen (by omega) (by rw [List.length_append]; exact eT) (by rw [List.length_append]; exact eF) (by rw [List.length_append, List.append_assoc]; exact eV) (by rw [List.length_append]; exact eC) (wf_tl hwf) (by rw [List.length_append]; exact hlr) ((rx_task (m := m) (n := 0) (p := 0)).q (by omega) hva hrq) ((xu_a (by decide)).trans hm) xu_s (ct_x hct2 (fun b i h1 h2 h3 => xu_a (by omega))) (by omega) (dr_x hdr (fun b i z => xu_a (by omega))) (hrx.tr (rx_task (m := m) (n := fs.length) (p := vs.length)) (Nat.le_refl _) (Nat.le_refl _) (Nat.le_refl _)) (by first | omega | (rw [List.length_append]; show _ ≤ _ + 1; omega) | (rw [List.length_append]; show _ + 1 ≤ 24; omega) | skip; try omega) (by first | omega | (rw [List.length_append]; show _ ≤ _ + 1; omega) | (rw [List.length_append]; show _ + 1 ≤ 24; omega) | skip; try omega) (by first | omega | (rw [List.length_append]; show _ ≤ _ + 1; omega) | (rw [List.length_append]; show _ + 1 ≤ 24; omega) | skip; try omega) ha hf
                · first | omega | exact absurd rfl c84 | exact absurd c84 (by decide)
          · by_cases k5 : u.1 = 5
            · have ess := ss_cons (w := w) (n := n) (t := u) (r := r) (p := vs1.length)
              rw [if_neg (by omega), if_pos k5] at ess
              rw [ess] at eT eF eV eC
              obtain ⟨hpw, hlr⟩ := sl_5 k5 hkk hlr
              refine mm_iload_n dX5_settle_2 rfl 0 rfl ?_
              refine mm_sipush (v := nI 128) dX5_settle_3 (by decide) ?_
              refine mn_icmp_ge (tgt := 119) dX5_settle_6 (by decide) (by omega) (by omega) (fun c6 => ?_) (fun c6 => ?_)
              · first | omega | exact absurd rfl c6 | exact absurd c6 (by decide)
              · refine mm_aload_n dX5_settle_9 rfl 1 rfl ?_
                refine cm_getR (b := 4) dX5_settle_10 ha zr_X5_14 (by decide) rfl rfl rfl ?_
                refine mm_aload_n dX5_settle_13 rfl 1 rfl ?_
                refine cm_getI dX5_settle_14 ha zr_X5_109 (by decide) rfl rfl ?_
                refine mn_top (u := .int (nI (t1))) (congrArg Value.int ((htk))) ?_
                refine cm_callVr (As := [.int (nI (t1))]) (rest := []) (d2 := 0) dX5_settle_17 ha (by decide) rfl zz_clX0 zc_X5_112 zs_X0_sortOf rfl rfl (Nat.le_of_ble_eq_true rfl) (Nat.le_of_ble_eq_true rfl) (by decide) (cc_sortOf ha (by omega)) ?_
                refine mn_top (u := .int (nI (5))) (congrArg Value.int (by rw [if_pos ht8, h5]; rw [if_neg (by omega), k5])) ?_
                refine mm_istore_n (L' := [(3, .int (nI (5))), (2, .int (nI (i))), (0, .ref (o + 3)), (1, .ref (o + (a + 3)))]) dX5_settle_20 rfl (by decide) rfl ?_
                refine mm_iload_n dX5_settle_21 rfl 0 rfl ?_
                refine mm_iconst (v := nI 4) dX5_settle_22 (by decide) ?_
                refine mn_icmp_ne (tgt := 47) dX5_settle_23 (by decide) (by omega) (by omega) (fun c23 => ?_) (fun c23 => ?_)
                · refine mm_iload_n dX5_settle_47 rfl 0 rfl ?_
                  refine mm_iconst (v := nI 5) dX5_settle_48 (by decide) ?_
                  refine mn_icmp_ne (tgt := 73) dX5_settle_49 (by decide) (by omega) (by omega) (fun c49 => ?_) (fun c49 => ?_)
                  · first | omega | exact absurd rfl c49 | exact absurd c49 (by decide)
                  · refine mm_aload_n dX5_settle_52 rfl 2 rfl ?_
                    refine cm_getR (b := 25) dX5_settle_53 ha zr_X5_28 (by decide) rfl rfl rfl ?_
                    refine mm_aload_n dX5_settle_56 rfl 2 rfl ?_
                    refine cm_getR (b := 4) dX5_settle_57 ha zr_X5_14 (by decide) rfl rfl rfl ?_
                    refine mm_aload_n dX5_settle_60 rfl 2 rfl ?_
                    refine cm_getI dX5_settle_61 ha zr_X5_109 (by decide) rfl rfl ?_
                    refine mn_top (u := .int (nI (t1))) (congrArg Value.int ((htk))) ?_
                    refine cm_callVr (As := [.int (nI (t1))]) (rest := [.ref (o + 25)]) (d2 := 0) dX5_settle_64 ha (by decide) rfl zz_clX0 zc_X5_258 zs_X0_worthOf rfl rfl (Nat.le_of_ble_eq_true rfl) (Nat.le_of_ble_eq_true rfl) (by decide) (cc_worthOf ha (by omega)) ?_
                    refine mn_top (u := .int (nI (u.2.2))) (congrArg Value.int (by rw [if_pos ht8]; exact h7 (by omega))) ?_
                    refine cm_callV (As := [.int (nI (u.2.2))]) (rest := []) (d2 := 1) dX5_settle_67 ha (by decide) rfl zz_clX1 zc_X5_233 zs_X1_takeDotted rfl rfl (Nat.le_of_ble_eq_true rfl) (Nat.le_of_ble_eq_true rfl) (by decide) (cd_takeDotted ha hdr.1.2.2.1 (by omega)) (fun r h1 hq => ?_)
                    obtain ⟨rfl, ha, hf'⟩ := hq
                    have hf := hf.tr hf'
                    obtain ⟨X2, ha, hrx', hdr, hlo⟩ := td_pack ha hdr
                    have hrx := hrx.tr (hrx' m) (Nat.le_refl _) (by omega) (by omega)
                    have hrq := (hrx' m).q (by omega) hva hrq
                    have hct2 := ct_x hct2 (fun b i h1 h2 h3 => hlo b i (by omega))
                    have hm := (hlo 4 6 (by decide)).trans hm
                    refine mm_goto (tgt := 80) dX5_settle_70 (by decide) ?_
                    refine mm_aload_n dX5_settle_80 rfl 2 rfl ?_
                    refine mm_iload_n dX5_settle_81 rfl 0 rfl ?_
                    refine mm_bipush (v := nI 6) dX5_settle_82 (by decide) ?_
                    refine mn_icmp_ne (tgt := 99) dX5_settle_84 (by decide) (by omega) (by omega) (fun c84 => ?_) (fun c84 => ?_)
                    · refine mm_aload_n dX5_settle_99 rfl 2 rfl ?_
                      refine cm_getR (b := 4) dX5_settle_100 ha zr_X5_14 (by decide) rfl rfl rfl ?_
                      refine mm_aload_n dX5_settle_103 rfl 2 rfl ?_
                      refine cm_getI dX5_settle_104 ha zr_X5_109 (by decide) rfl rfl ?_
                      refine mn_top (u := .int (nI (t1))) (congrArg Value.int (((hlo 3 10 (by decide)).trans htk))) ?_
                      refine cm_callVr (As := [.int (nI (t1))]) (rest := [.ref (o + 3)]) (d2 := 0) dX5_settle_107 ha (by decide) rfl zz_clX0 zc_X5_177 zs_X0_restOf rfl rfl (Nat.le_of_ble_eq_true rfl) (Nat.le_of_ble_eq_true rfl) (by decide) (cc_restOf ha (by omega)) ?_
                      refine mn_top (u := .int (nI (t2))) (congrArg Value.int (by rw [if_pos ht8]; exact (hlo _ _ (by decide)).trans h8)) ?_
                      refine cm_putI dX5_settle_110 ha hf zp_X5_109 (by decide) rfl rfl rfl rfl (fun h1 ha hf => ?_)
                      refine mn_iinc (m := 1) (L' := [(2, .int (nI (i + 1))), (3, .int (nI (5))), (0, .ref (o + 3)), (1, .ref (o + (a + 3)))]) dX5_settle_113 (by decide) 1 rfl (by decide) rfl ?_
                      refine mm_goto (tgt := 2) dX5_settle_116 (by decide) ?_
                      refine mn_sub [0, 2, 3] rfl ?_
                      exact ih r (i + 1) fs1 (vs1 ++ [u.2.2, 0]) c1 t2 _ _ hlen (by omega) (by rw [List.length_append]; exact eT) (by rw [List.length_append]; exact eF) (by rw [List.length_append, List.append_assoc]; exact eV) (by rw [List.length_append]; exact eC) (wf_tl hwf) (by rw [List.length_append]; exact hlr) ((rx_task (m := m) (n := 0) (p := 0)).q (by omega) hva hrq) ((xu_a (by decide)).trans hm) xu_s (ct_x hct2 (fun b i h1 h2 h3 => xu_a (by omega))) (by omega) (dr_x hdr (fun b i z => xu_a (by omega))) (hrx.tr (rx_task (m := m) (n := fs.length) (p := vs.length)) (Nat.le_refl _) (Nat.le_refl _) (Nat.le_refl _)) (by first | omega | (rw [List.length_append]; show _ ≤ _ + 2; omega) | (rw [List.length_append]; show _ + 2 ≤ 24; omega) | skip; try omega) (by first | omega | (rw [List.length_append]; show _ ≤ _ + 2; omega) | (rw [List.length_append]; show _ + 2 ≤ 24; omega) | skip; try omega) (by first | omega | (rw [List.length_append]; show _ ≤ _ + 2; omega) | (rw [List.length_append]; show _ + 2 ≤ 24; omega) | skip; try omega) ha hf
                    · first | omega | exact absurd rfl c84 | exact absurd c84 (by decide)
                · first | omega | exact absurd rfl c23 | exact absurd c23 (by decide)
            · have k6 : u.1 = 6 := by have := hs7.1; omega
              have ess := ss_cons (w := w) (n := n) (t := u) (r := r) (p := vs1.length)
              rw [if_neg (by omega), if_neg (by omega), if_pos k6] at ess
              rw [ess] at eT eF eV eC
              obtain ⟨hl1, hl2⟩ := sl_6 k6 hkk hlr
              have hlen2 := Nat.le_trans (dvn_len1 (ts := r) k6) hlen
              refine mm_iload_n dX5_settle_2 rfl 0 rfl ?_
              refine mm_sipush (v := nI 128) dX5_settle_3 (by decide) ?_
              refine mn_icmp_ge (tgt := 119) dX5_settle_6 (by decide) (by omega) (by omega) (fun c6 => ?_) (fun c6 => ?_)
              · first | omega | exact absurd rfl c6 | exact absurd c6 (by decide)
              · refine mm_aload_n dX5_settle_9 rfl 1 rfl ?_
                refine cm_getR (b := 4) dX5_settle_10 ha zr_X5_14 (by decide) rfl rfl rfl ?_
                refine mm_aload_n dX5_settle_13 rfl 1 rfl ?_
                refine cm_getI dX5_settle_14 ha zr_X5_109 (by decide) rfl rfl ?_
                refine mn_top (u := .int (nI (t1))) (congrArg Value.int ((htk))) ?_
                refine cm_callVr (As := [.int (nI (t1))]) (rest := []) (d2 := 0) dX5_settle_17 ha (by decide) rfl zz_clX0 zc_X5_112 zs_X0_sortOf rfl rfl (Nat.le_of_ble_eq_true rfl) (Nat.le_of_ble_eq_true rfl) (by decide) (cc_sortOf ha (by omega)) ?_
                refine mn_top (u := .int (nI (6))) (congrArg Value.int (by rw [if_pos ht8, h5, if_neg (by omega), k6])) ?_
                refine mm_istore_n (L' := [(3, .int (nI (6))), (2, .int (nI (i))), (0, .ref (o + 3)), (1, .ref (o + (a + 3)))]) dX5_settle_20 rfl (by decide) rfl ?_
                refine mm_iload_n dX5_settle_21 rfl 0 rfl ?_
                refine mm_iconst (v := nI 4) dX5_settle_22 (by decide) ?_
                refine mn_icmp_ne (tgt := 47) dX5_settle_23 (by decide) (by omega) (by omega) (fun c23 => ?_) (fun c23 => ?_)
                · refine mm_iload_n dX5_settle_47 rfl 0 rfl ?_
                  refine mm_iconst (v := nI 5) dX5_settle_48 (by decide) ?_
                  refine mn_icmp_ne (tgt := 73) dX5_settle_49 (by decide) (by omega) (by omega) (fun c49 => ?_) (fun c49 => ?_)
                  · refine mm_iload_n dX5_settle_73 rfl 0 rfl ?_
                    refine mm_bipush (v := nI 6) dX5_settle_74 (by decide) ?_
                    refine mn_icmp_eq (tgt := 80) dX5_settle_76 (by decide) (by omega) (by omega) (fun c76 => ?_) (fun c76 => ?_)
                    · refine mm_aload_n dX5_settle_80 rfl 2 rfl ?_
                      refine mm_iload_n dX5_settle_81 rfl 0 rfl ?_
                      refine mm_bipush (v := nI 6) dX5_settle_82 (by decide) ?_
                      refine mn_icmp_ne (tgt := 99) dX5_settle_84 (by decide) (by omega) (by omega) (fun c84 => ?_) (fun c84 => ?_)
                      · first | omega | exact absurd rfl c84 | exact absurd c84 (by decide)
                      · refine mm_aload_n dX5_settle_87 rfl 2 rfl ?_
                        refine mm_aload_n dX5_settle_88 rfl 3 rfl ?_
                        refine mm_aload_n dX5_settle_89 rfl 2 rfl ?_
                        refine cm_getI dX5_settle_90 ha zr_X5_109 (by decide) rfl rfl ?_
                        refine mn_top (u := .int (nI (t1))) (congrArg Value.int ((htk))) ?_
                        refine cm_callV (As := [.ref (o + (a + 3)), .int (nI (t1))]) (rest := [.ref (o + 3)]) (d2 := 1) dX5_settle_93 ha (by decide) rfl zz_clX5 zc_X5_261 zs_X5_divide rfl rfl (Nat.le_of_ble_eq_true rfl) (Nat.le_of_ble_eq_true rfl) (by decide) (cR_divide ha hva hrq hwf hct (by omega) hdr hv24 (fun z => ⟨(hl1 z).1, (hl1 z).2.1⟩)) (fun r h1 hq => ?_)
                        obtain ⟨X2, t3, rfl, ha, hf', hrx', hlo, ht3, hct2, hdd, hdn⟩ := hq
                        have hf := hf.tr hf'
                        have hrx := hrx.tr (hrx' m) (Nat.le_refl _) (by omega) (by omega)
                        have hrq := (hrx' m).q (by omega) hva hrq
                        have hm := (hlo 4 6 (by decide)).trans hm
                        refine mm_goto (tgt := 110) dX5_settle_96 (by decide) ?_
                        cases hd : ro_dot w vs1.length with
                        | true =>
                          have hdr := hdd hd
                          rw [if_pos hd] at eT eF eV eC
                          obtain ⟨hpw, -, hlr⟩ := hl1 hd
                          refine cm_putI dX5_settle_110 ha hf zp_X5_109 (by decide) rfl rfl rfl rfl (fun h1 ha hf => ?_)
                          refine mn_iinc (m := 1) (L' := [(2, .int (nI (i + 1))), (3, .int (nI (6))), (0, .ref (o + 3)), (1, .ref (o + (a + 3)))]) dX5_settle_113 (by decide) 1 rfl (by decide) rfl ?_
                          refine mm_goto (tgt := 2) dX5_settle_116 (by decide) ?_
                          refine mn_sub [0, 2, 3] rfl ?_
                          exact ih (dvn (u :: r)).2 (i + 1) (fs1 ++ [12]) (vs1 ++ [0]) (c1 * (dvn (u :: r)).1) t3 _ _ hlen2 (by omega) (by rw [List.length_append]; exact eT) (by rw [List.length_append, List.append_assoc]; exact eF) (by rw [List.length_append, List.append_assoc]; exact eV) (by rw [List.length_append, Nat.mul_assoc]; exact eC) (wf_dvn hwf) (by rw [List.length_append, List.length_append]; exact hlr) ((rx_task (m := m) (n := 0) (p := 0)).q (by omega) hva hrq) ((xu_a (by decide)).trans hm) xu_s (ct_x hct2 (fun b i h1 h2 h3 => xu_a (by omega))) (by omega) (dr_x hdr (fun b i z => xu_a (by omega))) (hrx.tr (rx_task (m := m) (n := fs.length) (p := vs.length)) (Nat.le_refl _) (Nat.le_refl _) (Nat.le_refl _)) (by first | omega | (rw [List.length_append]; show _ ≤ _ + 1; omega) | (rw [List.length_append]; show _ + 1 ≤ 24; omega) | skip; try omega) (by first | omega | (rw [List.length_append]; show _ ≤ _ + 1; omega) | (rw [List.length_append]; show _ + 1 ≤ 24; omega) | skip; try omega) (by first | omega | (rw [List.length_append]; show _ ≤ _ + 1; omega) | (rw [List.length_append]; show _ + 1 ≤ 24; omega) | skip; try omega) ha hf
                        | false =>
                          have hdr := hdn hd
                          rw [if_neg (by rw [hd]; decide)] at eT eF eV eC
                          have hlr := hl2 hd
                          refine cm_putI dX5_settle_110 ha hf zp_X5_109 (by decide) rfl rfl rfl rfl (fun h1 ha hf => ?_)
                          refine mn_iinc (m := 1) (L' := [(2, .int (nI (i + 1))), (3, .int (nI (6))), (0, .ref (o + 3)), (1, .ref (o + (a + 3)))]) dX5_settle_113 (by decide) 1 rfl (by decide) rfl ?_
                          refine mm_goto (tgt := 2) dX5_settle_116 (by decide) ?_
                          refine mn_sub [0, 2, 3] rfl ?_
                          exact ih (dvn (u :: r)).2 (i + 1) fs1 vs1 c1 t3 _ _ hlen2 (by omega) (eT) (eF) (eV) (eC) (wf_dvn hwf) (hlr) ((rx_task (m := m) (n := 0) (p := 0)).q (by omega) hva hrq) ((xu_a (by decide)).trans hm) xu_s (ct_x hct2 (fun b i h1 h2 h3 => xu_a (by omega))) (by omega) (dr_x hdr (fun b i z => xu_a (by omega))) (hrx.tr (rx_task (m := m) (n := fs.length) (p := vs.length)) (Nat.le_refl _) (Nat.le_refl _) (Nat.le_refl _)) (by omega) (by omega) (by omega) ha hf
                    · first | omega | exact absurd rfl c76 | exact absurd c76 (by decide)
                  · first | omega | exact absurd rfl c49 | exact absurd c49 (by decide)
                · first | omega | exact absurd rfl c23 | exact absurd c23 (by decide)
  have htl : ts.length ≤ t := ct_len hct
  refine mm_iconst (v := nI 0) dX5_settle_0 (by decide) ?_
  refine mm_istore_n (L' := [(2, .int (nI (0))), (0, .ref (o + 3)), (1, .ref (o + (a + 3)))]) dX5_settle_1 rfl (by decide) rfl ?_
  exact lp ts.length ts 0 fs vs c t X h (Nat.le_refl _) (by omega) rfl rfl rfl rfl hwf hlr hrq hm htk hct htm hdr rx_.rf (Nat.le_refl _) (Nat.le_refl _) hv24 ha cm_fr.rf
