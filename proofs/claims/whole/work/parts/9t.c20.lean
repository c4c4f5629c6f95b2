/-! Reader: a reading is made again -/
set_option maxRecDepth 100000 in
set_option maxHeartbeats 4000000 in
theorem cR_makeAgain {l : Launch} {D : va_G} {aa : Nat → ClassId} {b0 : Nat} {h : mm_H} {o : Nat} {X : Nat → Nat → Int32} {Y : Nat → Nat → Int64} {rl : Option Nat} {w : ro_w} {sg a r : Nat} {x : gL} (ha : cm_at o X Y rl h) (hva : vA a) (hw : vw_ X a w) (hs : vs_ X a sg) (hvk : vk_ X a w sg) (hrk : rk_ w sg (gd_ sg)) (hd0 : ro_dot w 0 = false) (hN : (RR (Br w sg (gd_ sg) 0)).length ≤ 1000) (hr : r < (RR (Br w sg (gd_ sg) 0)).length) (hx : (sS w sg)[r]? = some x) (hkn : rl = some a → kn_ X Y w sg a) : mm_V (zz_K l D aa b0) 5 yX5_makeAgain cX5_makeAgain 4 none 0 [(0, .ref (o + 3)), (1, .ref (o + a)), (2, .int (nI (r)))] [] h 0 0 (fun rv h' => rv = none ∧ ∃ (X' : Nat → Nat → Int32) (Y' : Nat → Nat → Int64), cm_at o X' Y' (some a) h' ∧ cm_fr o h h' ∧ rdx a false X X' ∧ (∀ b i, b ≠ 21 → Y' b i = Y b i) ∧ vk_ X' a w sg ∧ kn_ X' Y' w sg a ∧ dr_ X' x.2.1.1 x.2.1.2 x.2.2) := by
  have hge := vA_ge hva
  have h24 := hrk.1
  have mid : ∀ (X1 : Nat → Nat → Int32) (Y1 : Nat → Nat → Int64) (h1 : mm_H), cm_at o X1 Y1 (some a) h1 → cm_fr o h h1 → rdx a false X X1 → (∀ b i, b ≠ 21 → Y1 b i = Y b i) → vk_ X1 a w sg → kn_ X1 Y1 w sg a → mm_V (zz_K l D aa b0) 5 yX5_makeAgain cX5_makeAgain 4 none 13 [(0, .ref (o + 3)), (1, .ref (o + a)), (2, .int (nI (r)))] [] h1 0 0 (fun rv h' => rv = none ∧ ∃ (X' : Nat → Nat → Int32) (Y' : Nat → Nat → Int64), cm_at o X' Y' (some a) h' ∧ cm_fr o h h' ∧ rdx a false X X' ∧ (∀ b i, b ≠ 21 → Y' b i = Y b i) ∧ vk_ X' a w sg ∧ kn_ X' Y' w sg a ∧ dr_ X' x.2.1.1 x.2.1.2 x.2.2) := by
    intro X1 Y1 h1 ha hf hrd hY hvk hkn
    obtain ⟨dt, E, U, P, H, PL, RS, CO, AL, LI, hrq1, hfo, hor⟩ := id hkn
    obtain ⟨j, x1, h23, hxj, hx1⟩ := hor r hr
    have ex1 : x = x1 := by rw [hx] at hx1; exact Option.some.inj hx1
    subst ex1
    have hxB : x ∈ Br w sg (gd_ sg) 0 := RR_mem (List.mem_of_getElem? hxj)
    have hlk := (Br_lk hrk hxB).1
    have lp : ∀ (n : Nat) (rs : List fR) (X2 : Nat → Nat → Int32) (h2 : mm_H), rs.length + n = 48 → rq_ X2 w sg a dt E U P H PL RS CO AL LI → (∀ b i, (b < 3 ∨ (10 ≤ b ∧ b ≤ 24) ∨ 27 < b) → X2 b i = X1 b i) → cm_at o X2 Y1 (some a) h2 → cm_fr o h h2 → ((dr_ X2 x.2.1.1 x.2.1.2 x.2.2 ∧ x.2.1.2.length = w.1) ∨ ∃ φ : fR, nod_ X2 w sg rs x φ) → mm_V (zz_K l D aa b0) 5 yX5_makeAgain cX5_makeAgain 4 none 19 [(3, .int (nI (rs.length))), (0, .ref (o + 3)), (1, .ref (o + a)), (2, .int (nI (r)))] [] h2 0 0 (fun rv h' => rv = none ∧ ∃ (X' : Nat → Nat → Int32) (Y' : Nat → Nat → Int64), cm_at o X' Y' (some a) h' ∧ cm_fr o h h' ∧ rdx a false X X' ∧ (∀ b i, b ≠ 21 → Y' b i = Y b i) ∧ vk_ X' a w sg ∧ kn_ X' Y' w sg a ∧ dr_ X' x.2.1.1 x.2.1.2 x.2.2) := by
      intro n
      induction n with
      | zero =>
        intro rs X2 h2 hn hrq hK ha hf hcase
        have hw2 := hrq.2.2.1
        rcases hcase with ⟨hdr, hxl⟩ | ⟨φ, hφ⟩
        · refine mm_iload_n dX5_makeAgain_19 rfl 0 rfl ?_
          refine mm_bipush (v := nI 48) dX5_makeAgain_20 (by decide) ?_
          refine mn_icmp_ge (tgt := 70) dX5_makeAgain_22 (by decide) (by omega) (by omega) (fun c22 => ?_) (fun c22 => ?_)
          · exact mm_vret dX5_makeAgain_70 rfl (⟨rfl, X2, Y1, ha, hf, hrd.tr (fun b i z => hK b i (by omega)), hY, ⟨(hK _ _ (by omega)).trans hvk.1, (hK _ _ (by omega)).trans hvk.2.1, hvk.2.2.elim (fun u hu => ⟨u, (hK _ _ (by omega)).trans hu.1, hu.2⟩)⟩, ⟨dt, E, U, P, H, PL, RS, CO, AL, LI, hrq, fo2_x hfo (fun b i z => hK b i (by omega)), fun r' hr' => (hor r' hr').elim (fun j' hj' => hj'.elim (fun x' hx' => ⟨j', x', (hK _ _ (by omega)).trans hx'.1, hx'.2⟩))⟩, hdr⟩)
          · refine mm_aload_n dX5_makeAgain_25 rfl 1 rfl ?_
            refine cm_getR (b := 25) dX5_makeAgain_26 ha zr_X5_28 (by decide) rfl rfl rfl ?_
            refine cm_getI dX5_makeAgain_29 ha zr_X5_116 (by decide) rfl rfl ?_
            refine mn_top (u := .int (nI (x.2.1.2.length))) (congrArg Value.int ((hdr.1.2.2.1))) ?_
            refine mm_aload_n dX5_makeAgain_32 rfl 2 rfl ?_
            refine cm_getR (b := a + 3) dX5_makeAgain_33 ha zr_X5_70 (vA_lt hva 0 (by decide)) (vA_0 hva) rfl rfl ?_
            refine cm_getI dX5_makeAgain_36 ha zr_X5_76 (vA_lt hva 3 (by decide)) (vA_3 hva) rfl ?_
            refine mn_top (u := .int (nI (w.1))) (congrArg Value.int ((hw2.1.1))) ?_
            refine mn_icmp_ge (tgt := 70) dX5_makeAgain_39 (by decide) (by omega) (by omega) (fun c39 => ?_) (fun c39 => ?_)
            · exact mm_vret dX5_makeAgain_70 rfl (⟨rfl, X2, Y1, ha, hf, hrd.tr (fun b i z => hK b i (by omega)), hY, ⟨(hK _ _ (by omega)).trans hvk.1, (hK _ _ (by omega)).trans hvk.2.1, hvk.2.2.elim (fun u hu => ⟨u, (hK _ _ (by omega)).trans hu.1, hu.2⟩)⟩, ⟨dt, E, U, P, H, PL, RS, CO, AL, LI, hrq, fo2_x hfo (fun b i z => hK b i (by omega)), fun r' hr' => (hor r' hr').elim (fun j' hj' => hj'.elim (fun x' hx' => ⟨j', x', (hK _ _ (by omega)).trans hx'.1, hx'.2⟩))⟩, hdr⟩)
            · omega
        · obtain ⟨ts, fs, vs, c, last, m⟩ := φ
          obtain ⟨⟨t, ht, htm, hct⟩, hm, hdr, hfw, hm1, hrm, hBB, y, hy, hyx⟩ := hφ
          have htm : t < m := htm
          have hm1 : 1 ≤ m := hm1
          have hm : X2 4 6 = nI m := hm
          have hdr : dr_ X2 fs vs c := hdr
          have hct : ct_ X2 w sg (gd_ sg) ts t := hct
          have hrm : rm_ w sg (gd_ sg) ts vs.length 0 = Bt w sg (gd_ sg) (Br w sg (gd_ sg)) ts vs.length := hrm
          have hy : y ∈ Bt w sg (gd_ sg) (Br w sg (gd_ sg)) ts vs.length := hy
          have hBB : ∀ z ∈ (Bt w sg (gd_ sg) (Br w sg (gd_ sg)) ts vs.length).map (pf_ (cso rs) (ts, fs, vs, c, last, m)), z ∈ Br w sg (gd_ sg) 0 := hBB
          have hy2 := hy
          rw [← hrm] at hy2
          unfold rm_ at hy2
          rw [List.mem_flatMap] at hy2
          obtain ⟨ch, hcf, hyn⟩ := hy2
          have hcm : ch ∈ cl_ ts := (List.mem_filter.mp hcf).1
          have hne : nd_ w sg (gd_ sg) ts vs.length ch ≠ [] := fun q => by rw [q] at hyn; cases hyn
          have hB : ∀ z ∈ (nd_ w sg (gd_ sg) ts vs.length ch).map (pf_ (cso rs) (ts, fs, vs, c, last, m)), z ∈ Br w sg (gd_ sg) 0 := fun z hz => by
            rw [List.mem_map] at hz
            obtain ⟨y3, hy3, rfl⟩ := hz
            refine hBB _ (List.mem_map.mpr ⟨y3, ?_, rfl⟩)
            rw [← hrm]
            unfold rm_
            exact List.mem_flatMap.mpr ⟨ch, hcf, hy3⟩
          have hc18 := cl_pos hcm
          have hp : vs.length < w.1 := hfw.2.2.1
          obtain ⟨k, f, hkf, hh, hk6, hgf, hwt, hle, hfl, hm121, hr48, hm6, hlr, hnd⟩ := turn_c hrk (φ := (ts, fs, vs, c, last, m)) (r := rs) hfw hcm hne hB
          obtain ⟨e1, hp2, hwS, hor2⟩ := turn_s hrk (cs := cso rs) hfw hwt hm6 hlr hnd hB
          have hm121 : m + (ts_ sg k f).length ≤ 121 := hm121
          have hle : vs.length + (iv_ sg k f).length ≤ w.1 := hle
          have hfl : fs.length < 48 := hfl
          omega
      | succ n ih =>
        intro rs X2 h2 hn hrq hK ha hf hcase
        have hw2 := hrq.2.2.1
        rcases hcase with ⟨hdr, hxl⟩ | ⟨φ, hφ⟩
        · refine mm_iload_n dX5_makeAgain_19 rfl 0 rfl ?_
          refine mm_bipush (v := nI 48) dX5_makeAgain_20 (by decide) ?_
          refine mn_icmp_ge (tgt := 70) dX5_makeAgain_22 (by decide) (by omega) (by omega) (fun c22 => ?_) (fun c22 => ?_)
          · exact mm_vret dX5_makeAgain_70 rfl (⟨rfl, X2, Y1, ha, hf, hrd.tr (fun b i z => hK b i (by omega)), hY, ⟨(hK _ _ (by omega)).trans hvk.1, (hK _ _ (by omega)).trans hvk.2.1, hvk.2.2.elim (fun u hu => ⟨u, (hK _ _ (by omega)).trans hu.1, hu.2⟩)⟩, ⟨dt, E, U, P, H, PL, RS, CO, AL, LI, hrq, fo2_x hfo (fun b i z => hK b i (by omega)), fun r' hr' => (hor r' hr').elim (fun j' hj' => hj'.elim (fun x' hx' => ⟨j', x', (hK _ _ (by omega)).trans hx'.1, hx'.2⟩))⟩, hdr⟩)
          · refine mm_aload_n dX5_makeAgain_25 rfl 1 rfl ?_
            refine cm_getR (b := 25) dX5_makeAgain_26 ha zr_X5_28 (by decide) rfl rfl rfl ?_
            refine cm_getI dX5_makeAgain_29 ha zr_X5_116 (by decide) rfl rfl ?_
            refine mn_top (u := .int (nI (x.2.1.2.length))) (congrArg Value.int ((hdr.1.2.2.1))) ?_
            refine mm_aload_n dX5_makeAgain_32 rfl 2 rfl ?_
            refine cm_getR (b := a + 3) dX5_makeAgain_33 ha zr_X5_70 (vA_lt hva 0 (by decide)) (vA_0 hva) rfl rfl ?_
            refine cm_getI dX5_makeAgain_36 ha zr_X5_76 (vA_lt hva 3 (by decide)) (vA_3 hva) rfl ?_
            refine mn_top (u := .int (nI (w.1))) (congrArg Value.int ((hw2.1.1))) ?_
            refine mn_icmp_ge (tgt := 70) dX5_makeAgain_39 (by decide) (by omega) (by omega) (fun c39 => ?_) (fun c39 => ?_)
            · exact mm_vret dX5_makeAgain_70 rfl (⟨rfl, X2, Y1, ha, hf, hrd.tr (fun b i z => hK b i (by omega)), hY, ⟨(hK _ _ (by omega)).trans hvk.1, (hK _ _ (by omega)).trans hvk.2.1, hvk.2.2.elim (fun u hu => ⟨u, (hK _ _ (by omega)).trans hu.1, hu.2⟩)⟩, ⟨dt, E, U, P, H, PL, RS, CO, AL, LI, hrq, fo2_x hfo (fun b i z => hK b i (by omega)), fun r' hr' => (hor r' hr').elim (fun j' hj' => hj'.elim (fun x' hx' => ⟨j', x', (hK _ _ (by omega)).trans hx'.1, hx'.2⟩))⟩, hdr⟩)
            · omega
        · obtain ⟨ts, fs, vs, c, last, m⟩ := φ
          obtain ⟨⟨t, ht, htm, hct⟩, hm, hdr, hfw, hm1, hrm, hBB, y, hy, hyx⟩ := hφ
          have htm : t < m := htm
          have hm1 : 1 ≤ m := hm1
          have hm : X2 4 6 = nI m := hm
          have hdr : dr_ X2 fs vs c := hdr
          have hct : ct_ X2 w sg (gd_ sg) ts t := hct
          have hrm : rm_ w sg (gd_ sg) ts vs.length 0 = Bt w sg (gd_ sg) (Br w sg (gd_ sg)) ts vs.length := hrm
          have hy : y ∈ Bt w sg (gd_ sg) (Br w sg (gd_ sg)) ts vs.length := hy
          have hBB : ∀ z ∈ (Bt w sg (gd_ sg) (Br w sg (gd_ sg)) ts vs.length).map (pf_ (cso rs) (ts, fs, vs, c, last, m)), z ∈ Br w sg (gd_ sg) 0 := hBB
          have hy2 := hy
          rw [← hrm] at hy2
          unfold rm_ at hy2
          rw [List.mem_flatMap] at hy2
          obtain ⟨ch, hcf, hyn⟩ := hy2
          have hcm : ch ∈ cl_ ts := (List.mem_filter.mp hcf).1
          have hne : nd_ w sg (gd_ sg) ts vs.length ch ≠ [] := fun q => by rw [q] at hyn; cases hyn
          have hB : ∀ z ∈ (nd_ w sg (gd_ sg) ts vs.length ch).map (pf_ (cso rs) (ts, fs, vs, c, last, m)), z ∈ Br w sg (gd_ sg) 0 := fun z hz => by
            rw [List.mem_map] at hz
            obtain ⟨y3, hy3, rfl⟩ := hz
            refine hBB _ (List.mem_map.mpr ⟨y3, ?_, rfl⟩)
            rw [← hrm]
            unfold rm_
            exact List.mem_flatMap.mpr ⟨ch, hcf, hy3⟩
          have hc18 := cl_pos hcm
          have hp : vs.length < w.1 := hfw.2.2.1
          obtain ⟨k, f, hkf, hh, hk6, hgf, hwt, hle, hfl, hm121, hr48, hm6, hlr, hnd⟩ := turn_c hrk (φ := (ts, fs, vs, c, last, m)) (r := rs) hfw hcm hne hB
          obtain ⟨e1, hp2, hwS, hor2⟩ := turn_s hrk (cs := cso rs) hfw hwt hm6 hlr hnd hB
          have hm121 : m + (ts_ sg k f).length ≤ 121 := hm121
          have hle : vs.length + (iv_ sg k f).length ≤ w.1 := hle
          have hfl : fs.length < 48 := hfl
          have hxm : x ∈ (nd_ w sg (gd_ sg) ts vs.length ch).map (pf_ (cso rs) (ts, fs, vs, c, last, m)) := List.mem_map.mpr ⟨y, hyn, hyx⟩
          have hxc : rs.length < x.1.length ∧ x.1.getD rs.length 0 = ch := by
            have hyn2 : y ∈ (Bt w sg (gd_ sg) (Br w sg (gd_ sg)) (ts_ sg k f ++ rt_ ts) (vs.length + (iv_ sg k f).length)).map (lp_ ch f (iv_ sg k f)) := by rw [← hnd]; exact hyn
            obtain ⟨y4, -, hy4⟩ := List.mem_map.mp hyn2
            have e2 : x.1 = cso rs ++ (ch :: y4.1) := by rw [← hyx, ← hy4]; rfl
            rw [e2, List.length_append, cso_len, List.length_cons, List.getD_eq_getElem?_getD, List.getElem?_append_right (by rw [cso_len]; exact Nat.le_refl _), cso_len, Nat.sub_self]
            exact ⟨by omega, rfl⟩
          refine mm_iload_n dX5_makeAgain_19 rfl 0 rfl ?_
          refine mm_bipush (v := nI 48) dX5_makeAgain_20 (by decide) ?_
          refine mn_icmp_ge (tgt := 70) dX5_makeAgain_22 (by decide) (by omega) (by omega) (fun c22 => ?_) (fun c22 => ?_)
          · omega
          · refine mm_aload_n dX5_makeAgain_25 rfl 1 rfl ?_
            refine cm_getR (b := 25) dX5_makeAgain_26 ha zr_X5_28 (by decide) rfl rfl rfl ?_
            refine cm_getI dX5_makeAgain_29 ha zr_X5_116 (by decide) rfl rfl ?_
            refine mn_top (u := .int (nI (vs.length))) (congrArg Value.int ((hdr.1.2.2.1))) ?_
            refine mm_aload_n dX5_makeAgain_32 rfl 2 rfl ?_
            refine cm_getR (b := a + 3) dX5_makeAgain_33 ha zr_X5_70 (vA_lt hva 0 (by decide)) (vA_0 hva) rfl rfl ?_
            refine cm_getI dX5_makeAgain_36 ha zr_X5_76 (vA_lt hva 3 (by decide)) (vA_3 hva) rfl ?_
            refine mn_top (u := .int (nI (w.1))) (congrArg Value.int ((hw2.1.1))) ?_
            refine mn_icmp_ge (tgt := 70) dX5_makeAgain_39 (by decide) (by omega) (by omega) (fun c39 => ?_) (fun c39 => ?_)
            · omega
            · refine mm_aload_n dX5_makeAgain_42 rfl 1 rfl ?_
              refine mm_aload_n dX5_makeAgain_43 rfl 2 rfl ?_
              refine mm_aload_n dX5_makeAgain_44 rfl 1 rfl ?_
              refine cm_getR (b := 20) dX5_makeAgain_45 ha zr_X5_21 (by decide) rfl rfl rfl ?_
              refine mm_iload_n dX5_makeAgain_48 rfl 3 rfl ?_
              refine mm_iload_n dX5_makeAgain_49 rfl 0 rfl ?_
              refine cm_callVr (As := [.int (nI (r)), .int (nI (rs.length))]) (rest := [.ref (o + a), .ref (o + 3)]) (d2 := 0) dX5_makeAgain_50 ha (by decide) rfl zz_clX3 zc_X5_167 zs_X3_choiceOf rfl rfl (Nat.le_of_ble_eq_true rfl) (Nat.le_of_ble_eq_true rfl) (by decide) (cf_choiceOf ha (fo2_x hfo (fun b i z => hK b i (by omega))) hr (by omega) ((hK _ _ (by omega)).trans h23) hxj hlk) ?_
              refine mn_top (u := .int (nI (ch))) (congrArg Value.int (by rw [if_pos hxc.1, hxc.2])) ?_
              refine cm_callV (As := [.ref (o + a), .int (nI (ch))]) (rest := []) (d2 := 3) dX5_makeAgain_53 ha (by decide) rfl zz_clX5 zc_X5_102 zs_X5_choose rfl rfl (Nat.le_of_ble_eq_true rfl) (Nat.le_of_ble_eq_true rfl) (by decide) (cR_choose (ts := ts) (k := k) (f := f) ha hva hrq hm (by omega) ht hct htm hdr hfl (by omega) hk6 hc18 hkf hh hgf hp hfw.2.2.2.1 hfw.2.1) (fun r h1 hq => ?_)
              obtain ⟨rfl, X3, t3, ha, hf', hrx3, htk, hm, htm3, hct3, hdr⟩ := hq
              have hf := hf.tr hf'
              have hrq3 := hrx3.q hm1 hva hrq
              refine mm_aload_n dX5_makeAgain_56 rfl 1 rfl ?_
              refine mm_aload_n dX5_makeAgain_57 rfl 2 rfl ?_
              refine cm_getR (b := a + 3) dX5_makeAgain_58 ha zr_X5_70 (vA_lt hva 0 (by decide)) (vA_0 hva) rfl rfl ?_
              refine cm_callV (As := [.ref (o + (a + 3))]) (rest := []) (d2 := 2) dX5_makeAgain_61 ha (by decide) rfl zz_clX5 zc_X5_105 zs_X5_settle rfl rfl (Nat.le_of_ble_eq_true rfl) (Nat.le_of_ble_eq_true rfl) (by decide) (cR_settle ha hva hrq3 hm (by omega) htk hct3 htm3 hdr (by rw [List.length_append]; omega) hwt (by rw [List.length_append, List.length_append]; exact hlr)) (fun r h1 hq => ?_)
              obtain ⟨rfl, X4, t4, ha, hf', hrx4, htk, hm, htm4, hct4, hdr⟩ := hq
              have hf := hf.tr hf'
              have hrq4 := hrx4.q (by omega) hva hrq3
              have hrx := hrx3.tr hrx4 (by omega) (by rw [List.length_append]; omega) (by rw [List.length_append]; omega)
              have hdr : dr_ X4 (nf_ w sg (ts, fs, vs, c, last, m) k f).2.1 (nf_ w sg (ts, fs, vs, c, last, m) k f).2.2.1 (nf_ w sg (ts, fs, vs, c, last, m) k f).2.2.2.1 := hdr
              have hct4 : ct_ X4 w sg (gd_ sg) (nf_ w sg (ts, fs, vs, c, last, m) k f).1 t4 := hct4
              have htm4 : t4 < (nf_ w sg (ts, fs, vs, c, last, m) k f).2.2.2.2.2 := htm4
              have hm : X4 4 6 = nI (nf_ w sg (ts, fs, vs, c, last, m) k f).2.2.2.2.2 := hm
              have hnm : (nf_ w sg (ts, fs, vs, c, last, m) k f).2.2.2.2.2 = m + (ts_ sg k f).length := rfl
              generalize (nf_ w sg (ts, fs, vs, c, last, m) k f) = ψ at *
              refine mn_iinc (m := 1) (L' := [(3, .int (nI (rs.length + 1))), (0, .ref (o + 3)), (1, .ref (o + a)), (2, .int (nI (r)))]) dX5_makeAgain_64 (by decide) 0 rfl (by decide) rfl ?_
              refine mm_goto (tgt := 19) dX5_makeAgain_67 (by decide) ?_
              refine mn_sub [0, 1, 2, 3] rfl ?_
              refine ih ((ts, fs, vs, c, ch, m) :: rs) X4 _ (by show rs.length + 1 + n = 48; omega) hrq4 (fun b i z => (hrx b i (by omega)).trans (hK b i z)) ha hf ?_
              rcases hor2 with ⟨l1, l2, l3, l4⟩ | ⟨n1, n2, n3, n4⟩
              · left
                rw [l3, List.mem_singleton] at hxm
                rw [hxm]
                exact ⟨hdr, l2⟩
              · right
                have hce : cso ((ts, fs, vs, c, ch, m) :: rs) = cso rs ++ [ch] := cso_cons
                rw [e1] at hxm hB
                obtain ⟨y5, hy5, hy6⟩ := List.mem_map.mp hxm
                exact ⟨ψ, ⟨t4, htk, htm4, hct4⟩, hm, hdr, n2, by omega, n3, by rw [hce]; exact hB, y5, hy5, by rw [hce]; exact hy6⟩
    refine mm_aload_n dX5_makeAgain_13 rfl 0 rfl ?_
    refine cm_callV (As := []) (rest := []) (d2 := 2) dX5_makeAgain_14 ha (by decide) rfl zz_clX5 zc_X5_67 zs_X5_begin rfl rfl (Nat.le_of_ble_eq_true rfl) (Nat.le_of_ble_eq_true rfl) (by decide) (cR_begin ha hrq1.1.2.2.2.1) (fun r h1 hq => ?_)
    obtain ⟨rfl, ha, hf'⟩ := hq
    have hf := hf.tr hf'
    obtain ⟨X2, ha, hrq, hdr, ht0, hm1, hsm⟩ := rb_pack hva hrk hrq1.1 hrq1.2.2.1 hrq1.2.2.2 ha
    refine mm_iconst (v := nI 0) dX5_makeAgain_17 (by decide) ?_
    refine mm_istore_n (L' := [(3, .int (nI (0))), (0, .ref (o + 3)), (1, .ref (o + a)), (2, .int (nI (r)))]) dX5_makeAgain_18 rfl (by decide) rfl ?_
    refine mn_sub [0, 1, 2, 3] rfl ?_
    refine lp 48 [] X2 _ rfl hrq (fun b i z => hsm b i (by omega) (by omega) (by omega) (by omega)) ha hf ?_
    by_cases hw0 : w.1 = 0
    · left
      rw [Br_end (show w.1 ≤ 0 by omega), List.mem_singleton] at hxB
      rw [hxB]
      exact ⟨hdr, hw0.symm⟩
    · right
      have hg6 : (gd_ sg) ≤ 6 := by have := hrk.2.1; omega
      have hid : ∀ z : gL, pf_ (cso []) (([], [], [], 1, 0, 1) : fR) z = z := fun z => by
        obtain ⟨cs, ⟨fs, vs⟩, c⟩ := z
        show ([] ++ cs, gc ([], []) (fs, vs), 1 * c) = _
        rw [Nat.one_mul]
        rfl
      refine ⟨([], [], [], 1, 0, 1), ⟨0, ht0, by decide, rfl⟩, hm1, hdr, ⟨⟨(fun t ht => by cases ht), trivial⟩, show 0 < w.1 by omega, show 0 < w.1 by omega, fun _ => hd0, Nat.zero_le _, by show 1 ≤ 1 + 2 * 0 + 0 + 0; omega, by show 1 ≤ 4 ^ nd2 w 0; exact Nat.pos_of_ne_zero (fun z => by have := Nat.pow_eq_zero.mp z; omega)⟩, Nat.le_refl _, rm_0 hg6 (fun t ht => by cases ht) (show nn_ w [] 0 from (by omega : 0 < w.1)), fun z hz => ?_, x, hxB, hid x⟩
      obtain ⟨y3, hy3, rfl⟩ := List.mem_map.mp hz
      rw [hid]
      exact hy3
  have hf := cm_fr.rf (o := o) (h := h)
  refine mm_aload_n dX5_makeAgain_0 rfl 0 rfl ?_
  refine cm_getL dX5_makeAgain_1 ha zr_X5_122 (by decide) rfl rfl ?_
  refine mm_aload_n dX5_makeAgain_4 rfl 1 rfl ?_
  refine mm_acmp_eq (ry := some (o + a)) (rx := rl.map (fun q => o + q)) (tgt := 13) dX5_makeAgain_5 (by decide) (fun c5 => ?_) (fun c5 => ?_)
  · have e : rl = some a := by
      cases rl with
      | none => cases c5
      | some q => have e2 : o + q = o + a := Option.some.inj c5; rw [show q = a from by omega]
    rw [e] at ha
    exact mid X Y h ha hf rdx.rf (fun _ _ _ => rfl) hvk (hkn e)
  · refine mm_aload_n dX5_makeAgain_8 rfl 0 rfl ?_
    refine mm_aload_n dX5_makeAgain_9 rfl 1 rfl ?_
    refine cm_callV (As := [.ref (o + a)]) (rest := []) (d2 := 4) dX5_makeAgain_10 ha (by decide) rfl zz_clX5 zc_X5_164 zs_X5_read rfl rfl (Nat.le_of_ble_eq_true rfl) (Nat.le_of_ble_eq_true rfl) (by decide) (cR_read (st := false) ha hva hw hs hvk.1 (fun z => by cases z) hrk hd0) (fun r h1 hq => ?_)
    obtain ⟨rfl, X1, Y1, ha, hf', hrd, hY, h8, hu, -, hor⟩ := hq
    have hf := hf.tr hf'
    rcases hor with ⟨-, hlen⟩ | ⟨h5, hkn1, -⟩
    · omega
    · exact mid X1 Y1 _ ha hf hrd hY ⟨h8, by unfold tot_; rw [if_neg (by omega)]; exact h5, hu⟩ hkn1
