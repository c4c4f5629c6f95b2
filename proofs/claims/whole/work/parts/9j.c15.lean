/-! Reader: a reading is kept -/
theorem fo2_x {X X' : Nat → Nat → Int32} {Y : Nat → Nat → Int64} {R : List gL} (h : fo2 X Y R) (e : ∀ b i, b = 20 ∨ b = 22 → X' b i = X b i) : fo2 X' Y R := ⟨(e _ _ (Or.inl rfl)).trans h.1, h.2.1, fun i x hx => ⟨(e _ _ (Or.inr rfl)).trans (h.2.2 i x hx).1, (h.2.2 i x hx).2⟩⟩
/-- what keeping leaves as it was -/
def kx_ (a : Nat) (X X' : Nat → Nat → Int32) : Prop := ∀ b i : Nat, ¬ (b = 20 ∧ i = 4) → b ≠ 22 → ¬ (b = a ∧ i = 7) → b ≠ a + 2 → ¬ (b = 3 ∧ i = 11) → X' b i = X b i
/-- the reading that a stale voice holds as picked: the first of the least strained -/
def bs1 (b : Option gL) (x : gL) : gL := match b with
  | none => x
  | some y => if sn_ x.2.1.1 < sn_ y.2.1.1 then x else y
def ps_ (X : Nat → Nat → Int32) (a : Nat) (w : ro_w) (y : gL) : Prop := X 3 11 = nI (sn_ y.2.1.1) ∧ X a 7 = nI 0 ∧ ∀ i, i < w.1 → X (a + 2) i = nI (y.2.1.2.getD i 0)
theorem ps_x {X X' : Nat → Nat → Int32} {a : Nat} {w : ro_w} {y : gL} (h : ps_ X a w y) (e : ∀ b i, (b = 3 ∧ i = 11) ∨ (b = a ∧ i = 7) ∨ b = a + 2 → X' b i = X b i) : ps_ X' a w y := ⟨(e _ _ (Or.inl ⟨rfl, rfl⟩)).trans h.1, (e _ _ (Or.inr (Or.inl ⟨rfl, rfl⟩))).trans h.2.1, fun i hi => (e _ _ (Or.inr (Or.inr rfl))).trans (h.2.2 i hi)⟩
set_option maxRecDepth 100000 in
set_option maxHeartbeats 4000000 in
theorem cR_keep {l : Launch} {D : va_G} {aa : Nat → ClassId} {b0 : Nat} {h : mm_H} {o : Nat} {X : Nat → Nat → Int32} {Y : Nat → Nat → Int64} {rl : Option Nat} {w : ro_w} {a c : Nat} {st : Bool} {R : List gL} {cs fs vs : List Nat} {b : Option gL} (ha : cm_at o X Y rl h) (hva : vA a) (hst : X a 8 = nI (Bool.toNat st)) (hdr : dr_ X fs vs c) (hvs : vs.length = w.1) (h24 : w.1 ≤ 24) (hfo : fo2 X Y R) (hlk : lk_ (cs, (fs, vs), c)) (hcs : ∀ i, i < cs.length → X 30 i = nI (cs.getD i 0)) (hcp : c < 2 ^ 31) (hb : st = true → (R.length = 0 ∧ b = none) ∨ (R.length ≠ 0 ∧ ∃ y, b = some y ∧ ps_ X a w y)) (hy1 : ∀ y, b = some y → sn_ y.2.1.1 ≤ 127) : mm_V (zz_K l D aa b0) 2 yX5_keep cX5_keep 3 none 0 [(0, .ref (o + 3)), (1, .ref (o + a)), (2, .int (nI (cs.length)))] [] h 0 0 (fun rv h' => rv = none ∧ ∃ (X' : Nat → Nat → Int32) (Y' : Nat → Nat → Int64), cm_at o X' Y' rl h' ∧ cm_fr o h h' ∧ kx_ a X X' ∧ (∀ b i, b ≠ 21 → Y' b i = Y b i) ∧ (if R.length + c ≤ 1000 then fo2 X' Y' (R ++ List.replicate c (cs, (fs, vs), c)) else X' 20 4 = nI 1001) ∧ (st = true → ps_ X' a w (bs1 b (cs, (fs, vs), c))) ∧ (st = false → ∀ b i, (b = 3 ∧ i = 11) ∨ (b = a ∧ i = 7) ∨ b = a + 2 → X' b i = X b i)) := by
  have hf := cm_fr.rf (o := o) (h := h)
  have hge := vA_ge hva
  have hlk2 : sn_ fs ≤ 127 := hlk.2.2
  have hR1 := hfo.2.1
  refine mm_aload_n dX5_keep_0 rfl 1 rfl ?_
  refine cm_getI dX5_keep_1 ha zr_X5_143 (vA_lt hva 0 (by decide)) (vA_0 hva) rfl ?_
  refine mn_top (u := .int (nI (Bool.toNat (st)))) (congrArg Value.int ((hst))) ?_
  refine mn_ifB_eq (tgt := 51) dX5_keep_4 (by decide) (fun c4 => ?_) (fun c4 => ?_)
  · refine mm_aload_n dX5_keep_51 rfl 0 rfl ?_
    refine cm_getR (b := 20) dX5_keep_52 ha zr_X5_21 (by decide) rfl rfl rfl ?_
    refine mm_aload_n dX5_keep_55 rfl 0 rfl ?_
    refine cm_getR (b := 30) dX5_keep_56 ha zr_X5_39 (by decide) rfl rfl rfl ?_
    refine mm_iload_n dX5_keep_59 rfl 2 rfl ?_
    refine mm_aload_n dX5_keep_60 rfl 0 rfl ?_
    refine cm_getR (b := 25) dX5_keep_61 ha zr_X5_28 (by decide) rfl rfl rfl ?_
    refine cm_getI dX5_keep_64 ha zr_X5_147 (by decide) rfl rfl ?_
    refine mn_top (u := .int (nI (sn_ fs))) (congrArg Value.int ((hdr.1.2.1))) ?_
    refine mm_aload_n dX5_keep_67 rfl 0 rfl ?_
    refine cm_getR (b := 25) dX5_keep_68 ha zr_X5_28 (by decide) rfl rfl rfl ?_
    refine cm_getI dX5_keep_71 ha zr_X5_157 (by decide) rfl rfl ?_
    refine mn_top (u := .int (nI (c))) (congrArg Value.int ((hdr.1.2.2.2))) ?_
    refine cm_callV (As := [.ref (o + 30), .int (nI (cs.length)), .int (nI (sn_ fs)), .int (nI (c))]) (rest := []) (d2 := 1) dX5_keep_74 ha (by decide) rfl zz_clX3 zc_X5_160 zs_X3_add rfl rfl (Nat.le_of_ble_eq_true rfl) (Nat.le_of_ble_eq_true rfl) (by decide) (cf_add (x := (cs, (fs, vs), c)) ha hfo hlk hcs hcp) (fun r h1 hq => ?_)
    obtain ⟨rfl, X9, Y9, ha, hf', hx1, hy1, hR⟩ := hq
    have hf := hf.tr hf'
    exact mm_vret dX5_keep_77 rfl (⟨rfl, X9, Y9, ha, hf, fun b i n1 n2 _ _ _ => hx1 b i n1 n2, hy1, hR, (fun z => by rw [c4] at z; cases z), (fun _ b i z => hx1 b i (by omega) (by omega))⟩)
  · rcases hb c4 with ⟨hR0, hb0⟩ | ⟨hR0, y, hb0, hps⟩
    · refine mm_aload_n dX5_keep_7 rfl 0 rfl ?_
      refine cm_getR (b := 20) dX5_keep_8 ha zr_X5_21 (by decide) rfl rfl rfl ?_
      refine cm_getI dX5_keep_11 ha zr_X5_126 (by decide) rfl rfl ?_
      refine mn_top (u := .int (nI (R.length))) (congrArg Value.int ((hfo.1))) ?_
      refine mn_if_eq (tgt := 31) dX5_keep_14 (by decide) (by omega) (fun c14 => ?_) (fun c14 => ?_)
      · refine mm_aload_n dX5_keep_31 rfl 1 rfl ?_
        refine mm_iconst (v := nI 0) dX5_keep_32 (by decide) ?_
        refine mm_aload_n dX5_keep_33 rfl 0 rfl ?_
        refine cm_getR (b := 25) dX5_keep_34 ha zr_X5_28 (by decide) rfl rfl rfl ?_
        refine cm_callV (As := [.int (nI (0)), .ref (o + 25)]) (rest := []) (d2 := 1) dX5_keep_37 ha (vA_lt hva 0 (by decide)) (vA_0 hva) zz_clX9 zc_X5_153 zs_X9_holdPicked rfl rfl (Nat.le_of_ble_eq_true rfl) (Nat.le_of_ble_eq_true rfl) (by decide) (cv_holdPicked ha hva) (fun r h1 hq => ?_)
        obtain ⟨rfl, ha, hf'⟩ := hq
        have hf := hf.tr hf'
        refine mm_aload_n dX5_keep_40 rfl 0 rfl ?_
        refine mm_aload_n dX5_keep_41 rfl 0 rfl ?_
        refine cm_getR (b := 25) dX5_keep_42 ha zr_X5_28 (by decide) rfl rfl rfl ?_
        refine cm_getI dX5_keep_45 ha zr_X5_147 (by decide) rfl rfl ?_
        refine mn_top (u := .int (nI (sn_ fs))) (congrArg Value.int (((fcp_a (by omega)).trans ((xu_a (by omega)).trans hdr.1.2.1)))) ?_
        refine cm_putI dX5_keep_48 ha hf zp_X5_150 (by decide) rfl rfl rfl rfl (fun h1 ha hf => ?_)
        refine mm_aload_n dX5_keep_51 rfl 0 rfl ?_
        refine cm_getR (b := 20) dX5_keep_52 ha zr_X5_21 (by decide) rfl rfl rfl ?_
        refine mm_aload_n dX5_keep_55 rfl 0 rfl ?_
        refine cm_getR (b := 30) dX5_keep_56 ha zr_X5_39 (by decide) rfl rfl rfl ?_
        refine mm_iload_n dX5_keep_59 rfl 2 rfl ?_
        refine mm_aload_n dX5_keep_60 rfl 0 rfl ?_
        refine cm_getR (b := 25) dX5_keep_61 ha zr_X5_28 (by decide) rfl rfl rfl ?_
        refine cm_getI dX5_keep_64 ha zr_X5_147 (by decide) rfl rfl ?_
        refine mn_top (u := .int (nI (sn_ fs))) (congrArg Value.int (Eq.trans (xu_a (by decide)) (((fcp_a (by omega)).trans ((xu_a (by omega)).trans hdr.1.2.1))))) ?_
        refine mm_aload_n dX5_keep_67 rfl 0 rfl ?_
        refine cm_getR (b := 25) dX5_keep_68 ha zr_X5_28 (by decide) rfl rfl rfl ?_
        refine cm_getI dX5_keep_71 ha zr_X5_157 (by decide) rfl rfl ?_
        refine mn_top (u := .int (nI (c))) (congrArg Value.int (Eq.trans (xu_a (by decide)) (((fcp_a (by omega)).trans ((xu_a (by omega)).trans hdr.1.2.2.2))))) ?_
        refine cm_callV (As := [.ref (o + 30), .int (nI (cs.length)), .int (nI (sn_ fs)), .int (nI (c))]) (rest := []) (d2 := 1) dX5_keep_74 ha (by decide) rfl zz_clX3 zc_X5_160 zs_X3_add rfl rfl (Nat.le_of_ble_eq_true rfl) (Nat.le_of_ble_eq_true rfl) (by decide) (cf_add (x := (cs, (fs, vs), c)) ha (fo2_x hfo (fun b i z => (xu_a (by omega)).trans ((fcp_a (by omega)).trans (xu_a (by omega))))) hlk (fun j hj => (xu_a (by decide)).trans ((fcp_a (by omega)).trans ((xu_a (by omega)).trans (hcs j hj)))) hcp) (fun r h1 hq => ?_)
        obtain ⟨rfl, X9, Y9, ha, hf', hx1, hy1, hR⟩ := hq
        have hf := hf.tr hf'
        exact mm_vret dX5_keep_77 rfl (⟨rfl, X9, Y9, ha, hf, fun b i n1 n2 n3 n4 n5 => (hx1 b i n1 n2).trans ((xu_z n5).trans ((fcp_a n4).trans (xu_z n3))), hy1, hR, (fun _ => by show ps_ X9 a w (bs1 b (cs, (fs, vs), c)); rw [hb0]; show ps_ X9 a w (cs, (fs, vs), c); exact ⟨(hx1 _ _ (by omega) (by decide)).trans xu_s, (hx1 _ _ (by omega) (by omega)).trans ((xu_a (by omega)).trans ((fcp_a (by omega)).trans xu_s)), fun i hi => (hx1 _ _ (by omega) (by omega)).trans ((xu_a (by omega)).trans ((fcp_i (by omega)).trans ((xu_a (by omega)).trans (hdr.2.2 i (by omega)))))⟩), (fun z => by rw [c4] at z; cases z)⟩)
      · exact absurd hR0 c14
    · have hy127 := hy1 y hb0
      refine mm_aload_n dX5_keep_7 rfl 0 rfl ?_
      refine cm_getR (b := 20) dX5_keep_8 ha zr_X5_21 (by decide) rfl rfl rfl ?_
      refine cm_getI dX5_keep_11 ha zr_X5_126 (by decide) rfl rfl ?_
      refine mn_top (u := .int (nI (R.length))) (congrArg Value.int ((hfo.1))) ?_
      refine mn_if_eq (tgt := 31) dX5_keep_14 (by decide) (by omega) (fun c14 => ?_) (fun c14 => ?_)
      · exact absurd c14 hR0
      · refine mm_aload_n dX5_keep_17 rfl 0 rfl ?_
        refine cm_getR (b := 25) dX5_keep_18 ha zr_X5_28 (by decide) rfl rfl rfl ?_
        refine cm_getI dX5_keep_21 ha zr_X5_147 (by decide) rfl rfl ?_
        refine mn_top (u := .int (nI (sn_ fs))) (congrArg Value.int ((hdr.1.2.1))) ?_
        refine mm_aload_n dX5_keep_24 rfl 0 rfl ?_
        refine cm_getI dX5_keep_25 ha zr_X5_150 (by decide) rfl rfl ?_
        refine mn_top (u := .int (nI (sn_ y.2.1.1))) (congrArg Value.int ((hps.1))) ?_
        refine mn_icmp_ge (tgt := 51) dX5_keep_28 (by decide) (by omega) (by omega) (fun c28 => ?_) (fun c28 => ?_)
        · refine mm_aload_n dX5_keep_51 rfl 0 rfl ?_
          refine cm_getR (b := 20) dX5_keep_52 ha zr_X5_21 (by decide) rfl rfl rfl ?_
          refine mm_aload_n dX5_keep_55 rfl 0 rfl ?_
          refine cm_getR (b := 30) dX5_keep_56 ha zr_X5_39 (by decide) rfl rfl rfl ?_
          refine mm_iload_n dX5_keep_59 rfl 2 rfl ?_
          refine mm_aload_n dX5_keep_60 rfl 0 rfl ?_
          refine cm_getR (b := 25) dX5_keep_61 ha zr_X5_28 (by decide) rfl rfl rfl ?_
          refine cm_getI dX5_keep_64 ha zr_X5_147 (by decide) rfl rfl ?_
          refine mn_top (u := .int (nI (sn_ fs))) (congrArg Value.int ((hdr.1.2.1))) ?_
          refine mm_aload_n dX5_keep_67 rfl 0 rfl ?_
          refine cm_getR (b := 25) dX5_keep_68 ha zr_X5_28 (by decide) rfl rfl rfl ?_
          refine cm_getI dX5_keep_71 ha zr_X5_157 (by decide) rfl rfl ?_
          refine mn_top (u := .int (nI (c))) (congrArg Value.int ((hdr.1.2.2.2))) ?_
          refine cm_callV (As := [.ref (o + 30), .int (nI (cs.length)), .int (nI (sn_ fs)), .int (nI (c))]) (rest := []) (d2 := 1) dX5_keep_74 ha (by decide) rfl zz_clX3 zc_X5_160 zs_X3_add rfl rfl (Nat.le_of_ble_eq_true rfl) (Nat.le_of_ble_eq_true rfl) (by decide) (cf_add (x := (cs, (fs, vs), c)) ha hfo hlk hcs hcp) (fun r h1 hq => ?_)
          obtain ⟨rfl, X9, Y9, ha, hf', hx1, hy1, hR⟩ := hq
          have hf := hf.tr hf'
          exact mm_vret dX5_keep_77 rfl (⟨rfl, X9, Y9, ha, hf, fun b i n1 n2 _ _ _ => hx1 b i n1 n2, hy1, hR, (fun _ => by rw [hb0]; show ps_ X9 a w (if sn_ fs < sn_ y.2.1.1 then (cs, (fs, vs), c) else y); rw [if_neg (by omega)]; exact ps_x hps (fun b i z => hx1 b i (by omega) (by omega))), (fun z => by rw [c4] at z; cases z)⟩)
        · refine mm_aload_n dX5_keep_31 rfl 1 rfl ?_
          refine mm_iconst (v := nI 0) dX5_keep_32 (by decide) ?_
          refine mm_aload_n dX5_keep_33 rfl 0 rfl ?_
          refine cm_getR (b := 25) dX5_keep_34 ha zr_X5_28 (by decide) rfl rfl rfl ?_
          refine cm_callV (As := [.int (nI (0)), .ref (o + 25)]) (rest := []) (d2 := 1) dX5_keep_37 ha (vA_lt hva 0 (by decide)) (vA_0 hva) zz_clX9 zc_X5_153 zs_X9_holdPicked rfl rfl (Nat.le_of_ble_eq_true rfl) (Nat.le_of_ble_eq_true rfl) (by decide) (cv_holdPicked ha hva) (fun r h1 hq => ?_)
          obtain ⟨rfl, ha, hf'⟩ := hq
          have hf := hf.tr hf'
          refine mm_aload_n dX5_keep_40 rfl 0 rfl ?_
          refine mm_aload_n dX5_keep_41 rfl 0 rfl ?_
          refine cm_getR (b := 25) dX5_keep_42 ha zr_X5_28 (by decide) rfl rfl rfl ?_
          refine cm_getI dX5_keep_45 ha zr_X5_147 (by decide) rfl rfl ?_
          refine mn_top (u := .int (nI (sn_ fs))) (congrArg Value.int (((fcp_a (by omega)).trans ((xu_a (by omega)).trans hdr.1.2.1)))) ?_
          refine cm_putI dX5_keep_48 ha hf zp_X5_150 (by decide) rfl rfl rfl rfl (fun h1 ha hf => ?_)
          refine mm_aload_n dX5_keep_51 rfl 0 rfl ?_
          refine cm_getR (b := 20) dX5_keep_52 ha zr_X5_21 (by decide) rfl rfl rfl ?_
          refine mm_aload_n dX5_keep_55 rfl 0 rfl ?_
          refine cm_getR (b := 30) dX5_keep_56 ha zr_X5_39 (by decide) rfl rfl rfl ?_
          refine mm_iload_n dX5_keep_59 rfl 2 rfl ?_
          refine mm_aload_n dX5_keep_60 rfl 0 rfl ?_
          refine cm_getR (b := 25) dX5_keep_61 ha zr_X5_28 (by decide) rfl rfl rfl ?_
          refine cm_getI dX5_keep_64 ha zr_X5_147 (by decide) rfl rfl ?_
          refine mn_top (u := .int (nI (sn_ fs))) (congrArg Value.int (Eq.trans (xu_a (by decide)) (((fcp_a (by omega)).trans ((xu_a (by omega)).trans hdr.1.2.1))))) ?_
          refine mm_aload_n dX5_keep_67 rfl 0 rfl ?_
          refine cm_getR (b := 25) dX5_keep_68 ha zr_X5_28 (by decide) rfl rfl rfl ?_
          refine cm_getI dX5_keep_71 ha zr_X5_157 (by decide) rfl rfl ?_
          refine mn_top (u := .int (nI (c))) (congrArg Value.int (Eq.trans (xu_a (by decide)) (((fcp_a (by omega)).trans ((xu_a (by omega)).trans hdr.1.2.2.2))))) ?_
          refine cm_callV (As := [.ref (o + 30), .int (nI (cs.length)), .int (nI (sn_ fs)), .int (nI (c))]) (rest := []) (d2 := 1) dX5_keep_74 ha (by decide) rfl zz_clX3 zc_X5_160 zs_X3_add rfl rfl (Nat.le_of_ble_eq_true rfl) (Nat.le_of_ble_eq_true rfl) (by decide) (cf_add (x := (cs, (fs, vs), c)) ha (fo2_x hfo (fun b i z => (xu_a (by omega)).trans ((fcp_a (by omega)).trans (xu_a (by omega))))) hlk (fun j hj => (xu_a (by decide)).trans ((fcp_a (by omega)).trans ((xu_a (by omega)).trans (hcs j hj)))) hcp) (fun r h1 hq => ?_)
          obtain ⟨rfl, X9, Y9, ha, hf', hx1, hy1, hR⟩ := hq
          have hf := hf.tr hf'
          exact mm_vret dX5_keep_77 rfl (⟨rfl, X9, Y9, ha, hf, fun b i n1 n2 n3 n4 n5 => (hx1 b i n1 n2).trans ((xu_z n5).trans ((fcp_a n4).trans (xu_z n3))), hy1, hR, (fun _ => by show ps_ X9 a w (bs1 b (cs, (fs, vs), c)); rw [hb0]; show ps_ X9 a w (if sn_ fs < sn_ y.2.1.1 then (cs, (fs, vs), c) else y); rw [if_pos (by omega)]; exact ⟨(hx1 _ _ (by omega) (by decide)).trans xu_s, (hx1 _ _ (by omega) (by omega)).trans ((xu_a (by omega)).trans ((fcp_a (by omega)).trans xu_s)), fun i hi => (hx1 _ _ (by omega) (by omega)).trans ((xu_a (by omega)).trans ((fcp_i (by omega)).trans ((xu_a (by omega)).trans (hdr.2.2 i (by omega)))))⟩), (fun z => by rw [c4] at z; cases z)⟩)
