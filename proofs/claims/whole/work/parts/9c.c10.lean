/-! Reader: a choice -/
def ick_ (x : Option Nat) : Int32 := match x with
  | some k => nI k
  | none => -1
set_option maxRecDepth 100000 in
set_option maxHeartbeats 4000000 in
theorem cR_itemForm {l : Launch} {D : va_G} {aa : Nat → ClassId} {b0 : Nat} {h : mm_H} {ch : Nat} (hc : ch < 100) : mm_V (zz_K l D aa b0) 0 yX5_itemForm cX5_itemForm 1 (some .int) 0 [(0, .int (nI (ch)))] [] h 0 0 (fun rv h' => h' = h ∧ rv = some (.int (nI (if_ ch)))) := by
  refine mm_iload_n dX5_itemForm_0 rfl 0 rfl ?_
  refine mm_bipush (v := nI 16) dX5_itemForm_1 (by decide) ?_
  refine mn_icmp_ne (tgt := 11) dX5_itemForm_3 (by decide) (by omega) (by omega) (fun c3 => ?_) (fun c3 => ?_)
  · refine mm_iload_n dX5_itemForm_11 rfl 0 rfl ?_
    exact mm_iret dX5_itemForm_12 rfl (⟨rfl, by unfold if_; first | (rw [if_pos (by omega)]; done) | (rw [if_neg (by omega)]; done)⟩)
  · refine mm_bipush (v := nI 15) dX5_itemForm_6 (by decide) ?_
    refine mm_goto (tgt := 12) dX5_itemForm_8 (by decide) ?_
    exact mm_iret dX5_itemForm_12 rfl (⟨rfl, by unfold if_; first | (rw [if_pos (by omega)]; done) | (rw [if_neg (by omega)]; done)⟩)
set_option maxRecDepth 100000 in
set_option maxHeartbeats 4000000 in
theorem cR_itemKind {l : Launch} {D : va_G} {aa : Nat → ClassId} {b0 : Nat} {h : mm_H} {o : Nat} {X : Nat → Nat → Int32} {Y : Nat → Nat → Int64} {rl : Option Nat} {a sg ch p : Nat} {w : ro_w} (ha : cm_at o X Y rl h) (hva : vA a) (hw : vw_ X a w) (hs : vs_ X a sg) (hp : p < w.1) (hnd : ¬ w.2.1 p = 3) (hch : 1 ≤ ch ∧ ch ≤ 18) : mm_V (zz_K l D aa b0) 1 yX5_itemKind cX5_itemKind 5 (some .int) 0 [(0, .ref (o + 3)), (1, .ref (o + a)), (2, .int (nI (ch))), (3, .int (nI (p)))] [] h 0 0 (fun rv h' => h' = h ∧ rv = some (.int (ick_ (ic_ w (gd_ sg) ch p)))) := by
  have h24 := hw.1.2
  have hi := hw.2 p hp
  have hgd := (gd_ok (sg := sg)).1
  have hcc : ∀ j, j < w.1 → X (a + 3 + 4) j = nI (Bool.toNat (w.2.2.2 j)) := fun j hj => (hw.2 j hj).2.2.2.2.1
  have hcs : ch = 1 ∨ ch = 2 ∨ ch = 3 ∨ ch = 4 ∨ ch = 5 ∨ ch = 6 ∨ ch = 7 ∨ ch = 8 ∨ ch = 9 ∨ ch = 10 ∨ ch = 11 ∨ ch = 12 ∨ ch = 13 ∨ ch = 14 ∨ ch = 15 ∨ ch = 16 ∨ ch = 17 ∨ ch = 18 := by omega
  rcases hcs with rfl | rfl | rfl | rfl | rfl | rfl | rfl | rfl | rfl | rfl | rfl | rfl | rfl | rfl | rfl | rfl | rfl | rfl
  · refine mm_aload_n dX5_itemKind_0 rfl 1 rfl ?_
    refine cm_getR (b := a + 3) dX5_itemKind_1 ha zr_X5_70 (vA_lt hva 0 (by decide)) (vA_0 hva) rfl rfl ?_
    refine mm_iload_n dX5_itemKind_4 rfl 3 rfl ?_
    refine cm_callVr (As := [.int (nI (p))]) (rest := []) (d2 := 0) dX5_itemKind_5 ha (vA_lt hva 3 (by decide)) (vA_3 hva) zz_clX6 zc_X5_202 zs_X6_kindAt rfl rfl (Nat.le_of_ble_eq_true rfl) (Nat.le_of_ble_eq_true rfl) (by decide) (cr_kindAt ha (vr_A hva) hw.1.1 h24 (by omega)) ?_
    refine mn_top (u := .int (nI (w.2.2.1 p))) (congrArg Value.int (by rw [if_pos hp]; exact hi.2.2.1.trans (if_neg hnd))) ?_
    refine mm_istore (L' := [(4, .int (nI (w.2.2.1 p))), (0, .ref (o + 3)), (1, .ref (o + a)), (2, .int (nI (1))), (3, .int (nI (p)))]) dX5_itemKind_8 (by decide) rfl ?_
    refine mm_iload_n dX5_itemKind_10 rfl 3 rfl ?_
    refine mm_tableIn (off := 85) (tgt := 96) dX5_itemKind_11 (by decide) (by decide) rfl (by decide) ?_
    refine mm_goto (tgt := 152) dX5_itemKind_96 (by decide) ?_
    refine mm_iload dX5_itemKind_152 0 rfl ?_
    refine mn_if_lt (tgt := 171) dX5_itemKind_154 (by decide) (by omega) ?_
    refine mm_iload dX5_itemKind_157 0 rfl ?_
    refine mm_aload_n dX5_itemKind_159 rfl 2 rfl ?_
    refine cm_getI dX5_itemKind_160 ha zr_X5_209 (vA_lt hva 0 (by decide)) (vA_0 hva) rfl ?_
    refine mn_top (u := .int (nI ((gd_ sg)))) (congrArg Value.int ((hs.2.2.1))) ?_
    refine mn_icmp_gt (tgt := 171) dX5_itemKind_163 (by decide) (by omega) (by omega) (fun c163 => ?_) (fun c163 => ?_)
    · refine mm_iconst (v := (-1)) dX5_itemKind_171 (by decide) ?_
      exact mm_iret dX5_itemKind_172 rfl (⟨rfl, by rw [(show ic_ w (gd_ sg) 1 p = if w.2.2.1 p ≤ (gd_ sg) then some (w.2.2.1 p) else none from rfl)]; first | (rw [if_pos (by omega)]; rfl) | (rw [if_neg (by omega)]; rfl) | (rw [if_pos ⟨cb, by omega⟩]; rfl) | (rw [if_neg (fun z => by have := z.2; omega)]; rfl) | (rw [if_neg (fun z => by rw [cb] at z; cases z.1)]; rfl) | (rw [if_pos ⟨cb, by omega, by omega⟩]; rfl)⟩)
    · refine mm_iload dX5_itemKind_166 0 rfl ?_
      refine mm_goto (tgt := 172) dX5_itemKind_168 (by decide) ?_
      exact mm_iret dX5_itemKind_172 rfl (⟨rfl, by rw [(show ic_ w (gd_ sg) 1 p = if w.2.2.1 p ≤ (gd_ sg) then some (w.2.2.1 p) else none from rfl)]; first | (rw [if_pos (by omega)]; rfl) | (rw [if_neg (by omega)]; rfl) | (rw [if_pos ⟨cb, by omega⟩]; rfl) | (rw [if_neg (fun z => by have := z.2; omega)]; rfl) | (rw [if_neg (fun z => by rw [cb] at z; cases z.1)]; rfl) | (rw [if_pos ⟨cb, by omega, by omega⟩]; rfl)⟩)
  · refine mm_aload_n dX5_itemKind_0 rfl 1 rfl ?_
    refine cm_getR (b := a + 3) dX5_itemKind_1 ha zr_X5_70 (vA_lt hva 0 (by decide)) (vA_0 hva) rfl rfl ?_
    refine mm_iload_n dX5_itemKind_4 rfl 3 rfl ?_
    refine cm_callVr (As := [.int (nI (p))]) (rest := []) (d2 := 0) dX5_itemKind_5 ha (vA_lt hva 3 (by decide)) (vA_3 hva) zz_clX6 zc_X5_202 zs_X6_kindAt rfl rfl (Nat.le_of_ble_eq_true rfl) (Nat.le_of_ble_eq_true rfl) (by decide) (cr_kindAt ha (vr_A hva) hw.1.1 h24 (by omega)) ?_
    refine mn_top (u := .int (nI (w.2.2.1 p))) (congrArg Value.int (by rw [if_pos hp]; exact hi.2.2.1.trans (if_neg hnd))) ?_
    refine mm_istore (L' := [(4, .int (nI (w.2.2.1 p))), (0, .ref (o + 3)), (1, .ref (o + a)), (2, .int (nI (2))), (3, .int (nI (p)))]) dX5_itemKind_8 (by decide) rfl ?_
    refine mm_iload_n dX5_itemKind_10 rfl 3 rfl ?_
    refine mm_tableIn (off := 85) (tgt := 96) dX5_itemKind_11 (by decide) (by decide) rfl (by decide) ?_
    refine mm_goto (tgt := 152) dX5_itemKind_96 (by decide) ?_
    refine mm_iload dX5_itemKind_152 0 rfl ?_
    refine mn_if_lt (tgt := 171) dX5_itemKind_154 (by decide) (by omega) ?_
    refine mm_iload dX5_itemKind_157 0 rfl ?_
    refine mm_aload_n dX5_itemKind_159 rfl 2 rfl ?_
    refine cm_getI dX5_itemKind_160 ha zr_X5_209 (vA_lt hva 0 (by decide)) (vA_0 hva) rfl ?_
    refine mn_top (u := .int (nI ((gd_ sg)))) (congrArg Value.int ((hs.2.2.1))) ?_
    refine mn_icmp_gt (tgt := 171) dX5_itemKind_163 (by decide) (by omega) (by omega) (fun c163 => ?_) (fun c163 => ?_)
    · refine mm_iconst (v := (-1)) dX5_itemKind_171 (by decide) ?_
      exact mm_iret dX5_itemKind_172 rfl (⟨rfl, by rw [(show ic_ w (gd_ sg) 2 p = if w.2.2.1 p ≤ (gd_ sg) then some (w.2.2.1 p) else none from rfl)]; first | (rw [if_pos (by omega)]; rfl) | (rw [if_neg (by omega)]; rfl) | (rw [if_pos ⟨cb, by omega⟩]; rfl) | (rw [if_neg (fun z => by have := z.2; omega)]; rfl) | (rw [if_neg (fun z => by rw [cb] at z; cases z.1)]; rfl) | (rw [if_pos ⟨cb, by omega, by omega⟩]; rfl)⟩)
    · refine mm_iload dX5_itemKind_166 0 rfl ?_
      refine mm_goto (tgt := 172) dX5_itemKind_168 (by decide) ?_
      exact mm_iret dX5_itemKind_172 rfl (⟨rfl, by rw [(show ic_ w (gd_ sg) 2 p = if w.2.2.1 p ≤ (gd_ sg) then some (w.2.2.1 p) else none from rfl)]; first | (rw [if_pos (by omega)]; rfl) | (rw [if_neg (by omega)]; rfl) | (rw [if_pos ⟨cb, by omega⟩]; rfl) | (rw [if_neg (fun z => by have := z.2; omega)]; rfl) | (rw [if_neg (fun z => by rw [cb] at z; cases z.1)]; rfl) | (rw [if_pos ⟨cb, by omega, by omega⟩]; rfl)⟩)
  · refine mm_aload_n dX5_itemKind_0 rfl 1 rfl ?_
    refine cm_getR (b := a + 3) dX5_itemKind_1 ha zr_X5_70 (vA_lt hva 0 (by decide)) (vA_0 hva) rfl rfl ?_
    refine mm_iload_n dX5_itemKind_4 rfl 3 rfl ?_
    refine cm_callVr (As := [.int (nI (p))]) (rest := []) (d2 := 0) dX5_itemKind_5 ha (vA_lt hva 3 (by decide)) (vA_3 hva) zz_clX6 zc_X5_202 zs_X6_kindAt rfl rfl (Nat.le_of_ble_eq_true rfl) (Nat.le_of_ble_eq_true rfl) (by decide) (cr_kindAt ha (vr_A hva) hw.1.1 h24 (by omega)) ?_
    refine mn_top (u := .int (nI (w.2.2.1 p))) (congrArg Value.int (by rw [if_pos hp]; exact hi.2.2.1.trans (if_neg hnd))) ?_
    refine mm_istore (L' := [(4, .int (nI (w.2.2.1 p))), (0, .ref (o + 3)), (1, .ref (o + a)), (2, .int (nI (3))), (3, .int (nI (p)))]) dX5_itemKind_8 (by decide) rfl ?_
    refine mm_iload_n dX5_itemKind_10 rfl 3 rfl ?_
    refine mm_tableIn (off := 136) (tgt := 147) dX5_itemKind_11 (by decide) (by decide) rfl (by decide) ?_
    refine mm_aload_n dX5_itemKind_147 rfl 2 rfl ?_
    refine cm_getI dX5_itemKind_148 ha zr_X5_209 (vA_lt hva 0 (by decide)) (vA_0 hva) rfl ?_
    refine mn_top (u := .int (nI ((gd_ sg)))) (congrArg Value.int ((hs.2.2.1))) ?_
    exact mm_iret dX5_itemKind_151 rfl (⟨rfl, rfl⟩)
  · refine mm_aload_n dX5_itemKind_0 rfl 1 rfl ?_
    refine cm_getR (b := a + 3) dX5_itemKind_1 ha zr_X5_70 (vA_lt hva 0 (by decide)) (vA_0 hva) rfl rfl ?_
    refine mm_iload_n dX5_itemKind_4 rfl 3 rfl ?_
    refine cm_callVr (As := [.int (nI (p))]) (rest := []) (d2 := 0) dX5_itemKind_5 ha (vA_lt hva 3 (by decide)) (vA_3 hva) zz_clX6 zc_X5_202 zs_X6_kindAt rfl rfl (Nat.le_of_ble_eq_true rfl) (Nat.le_of_ble_eq_true rfl) (by decide) (cr_kindAt ha (vr_A hva) hw.1.1 h24 (by omega)) ?_
    refine mn_top (u := .int (nI (w.2.2.1 p))) (congrArg Value.int (by rw [if_pos hp]; exact hi.2.2.1.trans (if_neg hnd))) ?_
    refine mm_istore (L' := [(4, .int (nI (w.2.2.1 p))), (0, .ref (o + 3)), (1, .ref (o + a)), (2, .int (nI (4))), (3, .int (nI (p)))]) dX5_itemKind_8 (by decide) rfl ?_
    refine mm_iload_n dX5_itemKind_10 rfl 3 rfl ?_
    refine mm_tableIn (off := 136) (tgt := 147) dX5_itemKind_11 (by decide) (by decide) rfl (by decide) ?_
    refine mm_aload_n dX5_itemKind_147 rfl 2 rfl ?_
    refine cm_getI dX5_itemKind_148 ha zr_X5_209 (vA_lt hva 0 (by decide)) (vA_0 hva) rfl ?_
    refine mn_top (u := .int (nI ((gd_ sg)))) (congrArg Value.int ((hs.2.2.1))) ?_
    exact mm_iret dX5_itemKind_151 rfl (⟨rfl, rfl⟩)
  · refine mm_aload_n dX5_itemKind_0 rfl 1 rfl ?_
    refine cm_getR (b := a + 3) dX5_itemKind_1 ha zr_X5_70 (vA_lt hva 0 (by decide)) (vA_0 hva) rfl rfl ?_
    refine mm_iload_n dX5_itemKind_4 rfl 3 rfl ?_
    refine cm_callVr (As := [.int (nI (p))]) (rest := []) (d2 := 0) dX5_itemKind_5 ha (vA_lt hva 3 (by decide)) (vA_3 hva) zz_clX6 zc_X5_202 zs_X6_kindAt rfl rfl (Nat.le_of_ble_eq_true rfl) (Nat.le_of_ble_eq_true rfl) (by decide) (cr_kindAt ha (vr_A hva) hw.1.1 h24 (by omega)) ?_
    refine mn_top (u := .int (nI (w.2.2.1 p))) (congrArg Value.int (by rw [if_pos hp]; exact hi.2.2.1.trans (if_neg hnd))) ?_
    refine mm_istore (L' := [(4, .int (nI (w.2.2.1 p))), (0, .ref (o + 3)), (1, .ref (o + a)), (2, .int (nI (5))), (3, .int (nI (p)))]) dX5_itemKind_8 (by decide) rfl ?_
    refine mm_iload_n dX5_itemKind_10 rfl 3 rfl ?_
    refine mm_tableIn (off := 136) (tgt := 147) dX5_itemKind_11 (by decide) (by decide) rfl (by decide) ?_
    refine mm_aload_n dX5_itemKind_147 rfl 2 rfl ?_
    refine cm_getI dX5_itemKind_148 ha zr_X5_209 (vA_lt hva 0 (by decide)) (vA_0 hva) rfl ?_
    refine mn_top (u := .int (nI ((gd_ sg)))) (congrArg Value.int ((hs.2.2.1))) ?_
    exact mm_iret dX5_itemKind_151 rfl (⟨rfl, rfl⟩)
  · refine mm_aload_n dX5_itemKind_0 rfl 1 rfl ?_
    refine cm_getR (b := a + 3) dX5_itemKind_1 ha zr_X5_70 (vA_lt hva 0 (by decide)) (vA_0 hva) rfl rfl ?_
    refine mm_iload_n dX5_itemKind_4 rfl 3 rfl ?_
    refine cm_callVr (As := [.int (nI (p))]) (rest := []) (d2 := 0) dX5_itemKind_5 ha (vA_lt hva 3 (by decide)) (vA_3 hva) zz_clX6 zc_X5_202 zs_X6_kindAt rfl rfl (Nat.le_of_ble_eq_true rfl) (Nat.le_of_ble_eq_true rfl) (by decide) (cr_kindAt ha (vr_A hva) hw.1.1 h24 (by omega)) ?_
    refine mn_top (u := .int (nI (w.2.2.1 p))) (congrArg Value.int (by rw [if_pos hp]; exact hi.2.2.1.trans (if_neg hnd))) ?_
    refine mm_istore (L' := [(4, .int (nI (w.2.2.1 p))), (0, .ref (o + 3)), (1, .ref (o + a)), (2, .int (nI (6))), (3, .int (nI (p)))]) dX5_itemKind_8 (by decide) rfl ?_
    refine mm_iload_n dX5_itemKind_10 rfl 3 rfl ?_
    refine mm_tableIn (off := 136) (tgt := 147) dX5_itemKind_11 (by decide) (by decide) rfl (by decide) ?_
    refine mm_aload_n dX5_itemKind_147 rfl 2 rfl ?_
    refine cm_getI dX5_itemKind_148 ha zr_X5_209 (vA_lt hva 0 (by decide)) (vA_0 hva) rfl ?_
    refine mn_top (u := .int (nI ((gd_ sg)))) (congrArg Value.int ((hs.2.2.1))) ?_
    exact mm_iret dX5_itemKind_151 rfl (⟨rfl, rfl⟩)
  · refine mm_aload_n dX5_itemKind_0 rfl 1 rfl ?_
    refine cm_getR (b := a + 3) dX5_itemKind_1 ha zr_X5_70 (vA_lt hva 0 (by decide)) (vA_0 hva) rfl rfl ?_
    refine mm_iload_n dX5_itemKind_4 rfl 3 rfl ?_
    refine cm_callVr (As := [.int (nI (p))]) (rest := []) (d2 := 0) dX5_itemKind_5 ha (vA_lt hva 3 (by decide)) (vA_3 hva) zz_clX6 zc_X5_202 zs_X6_kindAt rfl rfl (Nat.le_of_ble_eq_true rfl) (Nat.le_of_ble_eq_true rfl) (by decide) (cr_kindAt ha (vr_A hva) hw.1.1 h24 (by omega)) ?_
    refine mn_top (u := .int (nI (w.2.2.1 p))) (congrArg Value.int (by rw [if_pos hp]; exact hi.2.2.1.trans (if_neg hnd))) ?_
    refine mm_istore (L' := [(4, .int (nI (w.2.2.1 p))), (0, .ref (o + 3)), (1, .ref (o + a)), (2, .int (nI (7))), (3, .int (nI (p)))]) dX5_itemKind_8 (by decide) rfl ?_
    refine mm_iload_n dX5_itemKind_10 rfl 3 rfl ?_
    refine mm_tableIn (off := 136) (tgt := 147) dX5_itemKind_11 (by decide) (by decide) rfl (by decide) ?_
    refine mm_aload_n dX5_itemKind_147 rfl 2 rfl ?_
    refine cm_getI dX5_itemKind_148 ha zr_X5_209 (vA_lt hva 0 (by decide)) (vA_0 hva) rfl ?_
    refine mn_top (u := .int (nI ((gd_ sg)))) (congrArg Value.int ((hs.2.2.1))) ?_
    exact mm_iret dX5_itemKind_151 rfl (⟨rfl, rfl⟩)
  · refine mm_aload_n dX5_itemKind_0 rfl 1 rfl ?_
    refine cm_getR (b := a + 3) dX5_itemKind_1 ha zr_X5_70 (vA_lt hva 0 (by decide)) (vA_0 hva) rfl rfl ?_
    refine mm_iload_n dX5_itemKind_4 rfl 3 rfl ?_
    refine cm_callVr (As := [.int (nI (p))]) (rest := []) (d2 := 0) dX5_itemKind_5 ha (vA_lt hva 3 (by decide)) (vA_3 hva) zz_clX6 zc_X5_202 zs_X6_kindAt rfl rfl (Nat.le_of_ble_eq_true rfl) (Nat.le_of_ble_eq_true rfl) (by decide) (cr_kindAt ha (vr_A hva) hw.1.1 h24 (by omega)) ?_
    refine mn_top (u := .int (nI (w.2.2.1 p))) (congrArg Value.int (by rw [if_pos hp]; exact hi.2.2.1.trans (if_neg hnd))) ?_
    refine mm_istore (L' := [(4, .int (nI (w.2.2.1 p))), (0, .ref (o + 3)), (1, .ref (o + a)), (2, .int (nI (8))), (3, .int (nI (p)))]) dX5_itemKind_8 (by decide) rfl ?_
    refine mm_iload_n dX5_itemKind_10 rfl 3 rfl ?_
    refine mm_tableIn (off := 136) (tgt := 147) dX5_itemKind_11 (by decide) (by decide) rfl (by decide) ?_
    refine mm_aload_n dX5_itemKind_147 rfl 2 rfl ?_
    refine cm_getI dX5_itemKind_148 ha zr_X5_209 (vA_lt hva 0 (by decide)) (vA_0 hva) rfl ?_
    refine mn_top (u := .int (nI ((gd_ sg)))) (congrArg Value.int ((hs.2.2.1))) ?_
    exact mm_iret dX5_itemKind_151 rfl (⟨rfl, rfl⟩)
  · refine mm_aload_n dX5_itemKind_0 rfl 1 rfl ?_
    refine cm_getR (b := a + 3) dX5_itemKind_1 ha zr_X5_70 (vA_lt hva 0 (by decide)) (vA_0 hva) rfl rfl ?_
    refine mm_iload_n dX5_itemKind_4 rfl 3 rfl ?_
    refine cm_callVr (As := [.int (nI (p))]) (rest := []) (d2 := 0) dX5_itemKind_5 ha (vA_lt hva 3 (by decide)) (vA_3 hva) zz_clX6 zc_X5_202 zs_X6_kindAt rfl rfl (Nat.le_of_ble_eq_true rfl) (Nat.le_of_ble_eq_true rfl) (by decide) (cr_kindAt ha (vr_A hva) hw.1.1 h24 (by omega)) ?_
    refine mn_top (u := .int (nI (w.2.2.1 p))) (congrArg Value.int (by rw [if_pos hp]; exact hi.2.2.1.trans (if_neg hnd))) ?_
    refine mm_istore (L' := [(4, .int (nI (w.2.2.1 p))), (0, .ref (o + 3)), (1, .ref (o + a)), (2, .int (nI (9))), (3, .int (nI (p)))]) dX5_itemKind_8 (by decide) rfl ?_
    refine mm_iload_n dX5_itemKind_10 rfl 3 rfl ?_
    refine mm_tableIn (off := 136) (tgt := 147) dX5_itemKind_11 (by decide) (by decide) rfl (by decide) ?_
    refine mm_aload_n dX5_itemKind_147 rfl 2 rfl ?_
    refine cm_getI dX5_itemKind_148 ha zr_X5_209 (vA_lt hva 0 (by decide)) (vA_0 hva) rfl ?_
    refine mn_top (u := .int (nI ((gd_ sg)))) (congrArg Value.int ((hs.2.2.1))) ?_
    exact mm_iret dX5_itemKind_151 rfl (⟨rfl, rfl⟩)
  · refine mm_aload_n dX5_itemKind_0 rfl 1 rfl ?_
    refine cm_getR (b := a + 3) dX5_itemKind_1 ha zr_X5_70 (vA_lt hva 0 (by decide)) (vA_0 hva) rfl rfl ?_
    refine mm_iload_n dX5_itemKind_4 rfl 3 rfl ?_
    refine cm_callVr (As := [.int (nI (p))]) (rest := []) (d2 := 0) dX5_itemKind_5 ha (vA_lt hva 3 (by decide)) (vA_3 hva) zz_clX6 zc_X5_202 zs_X6_kindAt rfl rfl (Nat.le_of_ble_eq_true rfl) (Nat.le_of_ble_eq_true rfl) (by decide) (cr_kindAt ha (vr_A hva) hw.1.1 h24 (by omega)) ?_
    refine mn_top (u := .int (nI (w.2.2.1 p))) (congrArg Value.int (by rw [if_pos hp]; exact hi.2.2.1.trans (if_neg hnd))) ?_
    refine mm_istore (L' := [(4, .int (nI (w.2.2.1 p))), (0, .ref (o + 3)), (1, .ref (o + a)), (2, .int (nI (10))), (3, .int (nI (p)))]) dX5_itemKind_8 (by decide) rfl ?_
    refine mm_iload_n dX5_itemKind_10 rfl 3 rfl ?_
    refine mm_tableIn (off := 136) (tgt := 147) dX5_itemKind_11 (by decide) (by decide) rfl (by decide) ?_
    refine mm_aload_n dX5_itemKind_147 rfl 2 rfl ?_
    refine cm_getI dX5_itemKind_148 ha zr_X5_209 (vA_lt hva 0 (by decide)) (vA_0 hva) rfl ?_
    refine mn_top (u := .int (nI ((gd_ sg)))) (congrArg Value.int ((hs.2.2.1))) ?_
    exact mm_iret dX5_itemKind_151 rfl (⟨rfl, rfl⟩)
  · refine mm_aload_n dX5_itemKind_0 rfl 1 rfl ?_
    refine cm_getR (b := a + 3) dX5_itemKind_1 ha zr_X5_70 (vA_lt hva 0 (by decide)) (vA_0 hva) rfl rfl ?_
    refine mm_iload_n dX5_itemKind_4 rfl 3 rfl ?_
    refine cm_callVr (As := [.int (nI (p))]) (rest := []) (d2 := 0) dX5_itemKind_5 ha (vA_lt hva 3 (by decide)) (vA_3 hva) zz_clX6 zc_X5_202 zs_X6_kindAt rfl rfl (Nat.le_of_ble_eq_true rfl) (Nat.le_of_ble_eq_true rfl) (by decide) (cr_kindAt ha (vr_A hva) hw.1.1 h24 (by omega)) ?_
    refine mn_top (u := .int (nI (w.2.2.1 p))) (congrArg Value.int (by rw [if_pos hp]; exact hi.2.2.1.trans (if_neg hnd))) ?_
    refine mm_istore (L' := [(4, .int (nI (w.2.2.1 p))), (0, .ref (o + 3)), (1, .ref (o + a)), (2, .int (nI (11))), (3, .int (nI (p)))]) dX5_itemKind_8 (by decide) rfl ?_
    refine mm_iload_n dX5_itemKind_10 rfl 3 rfl ?_
    refine mm_tableIn (off := 136) (tgt := 147) dX5_itemKind_11 (by decide) (by decide) rfl (by decide) ?_
    refine mm_aload_n dX5_itemKind_147 rfl 2 rfl ?_
    refine cm_getI dX5_itemKind_148 ha zr_X5_209 (vA_lt hva 0 (by decide)) (vA_0 hva) rfl ?_
    refine mn_top (u := .int (nI ((gd_ sg)))) (congrArg Value.int ((hs.2.2.1))) ?_
    exact mm_iret dX5_itemKind_151 rfl (⟨rfl, rfl⟩)
  · refine mm_aload_n dX5_itemKind_0 rfl 1 rfl ?_
    refine cm_getR (b := a + 3) dX5_itemKind_1 ha zr_X5_70 (vA_lt hva 0 (by decide)) (vA_0 hva) rfl rfl ?_
    refine mm_iload_n dX5_itemKind_4 rfl 3 rfl ?_
    refine cm_callVr (As := [.int (nI (p))]) (rest := []) (d2 := 0) dX5_itemKind_5 ha (vA_lt hva 3 (by decide)) (vA_3 hva) zz_clX6 zc_X5_202 zs_X6_kindAt rfl rfl (Nat.le_of_ble_eq_true rfl) (Nat.le_of_ble_eq_true rfl) (by decide) (cr_kindAt ha (vr_A hva) hw.1.1 h24 (by omega)) ?_
    refine mn_top (u := .int (nI (w.2.2.1 p))) (congrArg Value.int (by rw [if_pos hp]; exact hi.2.2.1.trans (if_neg hnd))) ?_
    refine mm_istore (L' := [(4, .int (nI (w.2.2.1 p))), (0, .ref (o + 3)), (1, .ref (o + a)), (2, .int (nI (12))), (3, .int (nI (p)))]) dX5_itemKind_8 (by decide) rfl ?_
    refine mm_iload_n dX5_itemKind_10 rfl 3 rfl ?_
    refine mm_tableIn (off := 134) (tgt := 145) dX5_itemKind_11 (by decide) (by decide) rfl (by decide) ?_
    refine mm_iconst (v := (-1)) dX5_itemKind_145 (by decide) ?_
    exact mm_iret dX5_itemKind_146 rfl (⟨rfl, rfl⟩)
  · refine mm_aload_n dX5_itemKind_0 rfl 1 rfl ?_
    refine cm_getR (b := a + 3) dX5_itemKind_1 ha zr_X5_70 (vA_lt hva 0 (by decide)) (vA_0 hva) rfl rfl ?_
    refine mm_iload_n dX5_itemKind_4 rfl 3 rfl ?_
    refine cm_callVr (As := [.int (nI (p))]) (rest := []) (d2 := 0) dX5_itemKind_5 ha (vA_lt hva 3 (by decide)) (vA_3 hva) zz_clX6 zc_X5_202 zs_X6_kindAt rfl rfl (Nat.le_of_ble_eq_true rfl) (Nat.le_of_ble_eq_true rfl) (by decide) (cr_kindAt ha (vr_A hva) hw.1.1 h24 (by omega)) ?_
    refine mn_top (u := .int (nI (w.2.2.1 p))) (congrArg Value.int (by rw [if_pos hp]; exact hi.2.2.1.trans (if_neg hnd))) ?_
    refine mm_istore (L' := [(4, .int (nI (w.2.2.1 p))), (0, .ref (o + 3)), (1, .ref (o + a)), (2, .int (nI (13))), (3, .int (nI (p)))]) dX5_itemKind_8 (by decide) rfl ?_
    refine mm_iload_n dX5_itemKind_10 rfl 3 rfl ?_
    refine mm_tableIn (off := 136) (tgt := 147) dX5_itemKind_11 (by decide) (by decide) rfl (by decide) ?_
    refine mm_aload_n dX5_itemKind_147 rfl 2 rfl ?_
    refine cm_getI dX5_itemKind_148 ha zr_X5_209 (vA_lt hva 0 (by decide)) (vA_0 hva) rfl ?_
    refine mn_top (u := .int (nI ((gd_ sg)))) (congrArg Value.int ((hs.2.2.1))) ?_
    exact mm_iret dX5_itemKind_151 rfl (⟨rfl, rfl⟩)
  · refine mm_aload_n dX5_itemKind_0 rfl 1 rfl ?_
    refine cm_getR (b := a + 3) dX5_itemKind_1 ha zr_X5_70 (vA_lt hva 0 (by decide)) (vA_0 hva) rfl rfl ?_
    refine mm_iload_n dX5_itemKind_4 rfl 3 rfl ?_
    refine cm_callVr (As := [.int (nI (p))]) (rest := []) (d2 := 0) dX5_itemKind_5 ha (vA_lt hva 3 (by decide)) (vA_3 hva) zz_clX6 zc_X5_202 zs_X6_kindAt rfl rfl (Nat.le_of_ble_eq_true rfl) (Nat.le_of_ble_eq_true rfl) (by decide) (cr_kindAt ha (vr_A hva) hw.1.1 h24 (by omega)) ?_
    refine mn_top (u := .int (nI (w.2.2.1 p))) (congrArg Value.int (by rw [if_pos hp]; exact hi.2.2.1.trans (if_neg hnd))) ?_
    refine mm_istore (L' := [(4, .int (nI (w.2.2.1 p))), (0, .ref (o + 3)), (1, .ref (o + a)), (2, .int (nI (14))), (3, .int (nI (p)))]) dX5_itemKind_8 (by decide) rfl ?_
    refine mm_iload_n dX5_itemKind_10 rfl 3 rfl ?_
    refine mm_tableIn (off := 136) (tgt := 147) dX5_itemKind_11 (by decide) (by decide) rfl (by decide) ?_
    refine mm_aload_n dX5_itemKind_147 rfl 2 rfl ?_
    refine cm_getI dX5_itemKind_148 ha zr_X5_209 (vA_lt hva 0 (by decide)) (vA_0 hva) rfl ?_
    refine mn_top (u := .int (nI ((gd_ sg)))) (congrArg Value.int ((hs.2.2.1))) ?_
    exact mm_iret dX5_itemKind_151 rfl (⟨rfl, rfl⟩)
  · refine mm_aload_n dX5_itemKind_0 rfl 1 rfl ?_
    refine cm_getR (b := a + 3) dX5_itemKind_1 ha zr_X5_70 (vA_lt hva 0 (by decide)) (vA_0 hva) rfl rfl ?_
    refine mm_iload_n dX5_itemKind_4 rfl 3 rfl ?_
    refine cm_callVr (As := [.int (nI (p))]) (rest := []) (d2 := 0) dX5_itemKind_5 ha (vA_lt hva 3 (by decide)) (vA_3 hva) zz_clX6 zc_X5_202 zs_X6_kindAt rfl rfl (Nat.le_of_ble_eq_true rfl) (Nat.le_of_ble_eq_true rfl) (by decide) (cr_kindAt ha (vr_A hva) hw.1.1 h24 (by omega)) ?_
    refine mn_top (u := .int (nI (w.2.2.1 p))) (congrArg Value.int (by rw [if_pos hp]; exact hi.2.2.1.trans (if_neg hnd))) ?_
    refine mm_istore (L' := [(4, .int (nI (w.2.2.1 p))), (0, .ref (o + 3)), (1, .ref (o + a)), (2, .int (nI (15))), (3, .int (nI (p)))]) dX5_itemKind_8 (by decide) rfl ?_
    refine mm_iload_n dX5_itemKind_10 rfl 3 rfl ?_
    refine mm_tableIn (off := 88) (tgt := 99) dX5_itemKind_11 (by decide) (by decide) rfl (by decide) ?_
    refine mm_aload_n dX5_itemKind_99 rfl 2 rfl ?_
    refine cm_getR (b := a + 3) dX5_itemKind_100 ha zr_X5_70 (vA_lt hva 0 (by decide)) (vA_0 hva) rfl rfl ?_
    refine mm_iload_n dX5_itemKind_103 rfl 4 rfl ?_
    refine cm_callVr (As := [.int (nI (p))]) (rest := []) (d2 := 0) dX5_itemKind_104 ha (vA_lt hva 3 (by decide)) (vA_3 hva) zz_clX6 zc_X5_205 zs_X6_isColouredAt rfl rfl (Nat.le_of_ble_eq_true rfl) (Nat.le_of_ble_eq_true rfl) (by decide) (cr_isColouredAt ha (vr_A hva) hw.1.1 h24 (by omega) hcc) ?_
    refine mn_top (u := .int (nI (Bool.toNat (w.2.2.2 p)))) (congrArg Value.int (by rw [decide_eq_true hp, Bool.true_and])) ?_
    refine mn_ifB_eq (tgt := 115) dX5_itemKind_107 (by decide) (fun cb => ?_) (fun cb => ?_)
    · refine mm_iconst (v := (-1)) dX5_itemKind_115 (by decide) ?_
      refine mm_istore (L' := [(4, .int ((-1))), (0, .ref (o + 3)), (1, .ref (o + a)), (2, .int (nI (15))), (3, .int (nI (p)))]) dX5_itemKind_116 (by decide) rfl ?_
      refine mm_goto (tgt := 152) dX5_itemKind_118 (by decide) ?_
      refine mm_iload dX5_itemKind_152 0 rfl ?_
      refine mm_if_lt (tgt := 171) dX5_itemKind_154 (by decide) (fun c154 => ?_) (fun c154 => ?_)
      · refine mm_iconst (v := (-1)) dX5_itemKind_171 (by decide) ?_
        exact mm_iret dX5_itemKind_172 rfl (⟨rfl, by rw [(show ic_ w (gd_ sg) 15 p = if w.2.2.2 p = true ∧ w.2.2.1 p ≤ (gd_ sg) then some (w.2.2.1 p) else none from rfl)]; first | (rw [if_pos (by omega)]; rfl) | (rw [if_neg (by omega)]; rfl) | (rw [if_pos ⟨cb, by omega⟩]; rfl) | (rw [if_neg (fun z => by have := z.2; omega)]; rfl) | (rw [if_neg (fun z => by rw [cb] at z; cases z.1)]; rfl) | (rw [if_pos ⟨cb, by omega, by omega⟩]; rfl)⟩)
      · exact absurd (by decide) c154
    · refine mm_iload dX5_itemKind_110 0 rfl ?_
      refine mm_goto (tgt := 116) dX5_itemKind_112 (by decide) ?_
      refine mm_istore (L' := [(4, .int (nI (w.2.2.1 p))), (0, .ref (o + 3)), (1, .ref (o + a)), (2, .int (nI (15))), (3, .int (nI (p)))]) dX5_itemKind_116 (by decide) rfl ?_
      refine mm_goto (tgt := 152) dX5_itemKind_118 (by decide) ?_
      refine mm_iload dX5_itemKind_152 0 rfl ?_
      refine mn_if_lt (tgt := 171) dX5_itemKind_154 (by decide) (by omega) ?_
      refine mm_iload dX5_itemKind_157 0 rfl ?_
      refine mm_aload_n dX5_itemKind_159 rfl 2 rfl ?_
      refine cm_getI dX5_itemKind_160 ha zr_X5_209 (vA_lt hva 0 (by decide)) (vA_0 hva) rfl ?_
      refine mn_top (u := .int (nI ((gd_ sg)))) (congrArg Value.int ((hs.2.2.1))) ?_
      refine mn_icmp_gt (tgt := 171) dX5_itemKind_163 (by decide) (by omega) (by omega) (fun c163 => ?_) (fun c163 => ?_)
      · refine mm_iconst (v := (-1)) dX5_itemKind_171 (by decide) ?_
        exact mm_iret dX5_itemKind_172 rfl (⟨rfl, by rw [(show ic_ w (gd_ sg) 15 p = if w.2.2.2 p = true ∧ w.2.2.1 p ≤ (gd_ sg) then some (w.2.2.1 p) else none from rfl)]; first | (rw [if_pos (by omega)]; rfl) | (rw [if_neg (by omega)]; rfl) | (rw [if_pos ⟨cb, by omega⟩]; rfl) | (rw [if_neg (fun z => by have := z.2; omega)]; rfl) | (rw [if_neg (fun z => by rw [cb] at z; cases z.1)]; rfl) | (rw [if_pos ⟨cb, by omega, by omega⟩]; rfl)⟩)
      · refine mm_iload dX5_itemKind_166 0 rfl ?_
        refine mm_goto (tgt := 172) dX5_itemKind_168 (by decide) ?_
        exact mm_iret dX5_itemKind_172 rfl (⟨rfl, by rw [(show ic_ w (gd_ sg) 15 p = if w.2.2.2 p = true ∧ w.2.2.1 p ≤ (gd_ sg) then some (w.2.2.1 p) else none from rfl)]; first | (rw [if_pos (by omega)]; rfl) | (rw [if_neg (by omega)]; rfl) | (rw [if_pos ⟨cb, by omega⟩]; rfl) | (rw [if_neg (fun z => by have := z.2; omega)]; rfl) | (rw [if_neg (fun z => by rw [cb] at z; cases z.1)]; rfl) | (rw [if_pos ⟨cb, by omega, by omega⟩]; rfl)⟩)
  · refine mm_aload_n dX5_itemKind_0 rfl 1 rfl ?_
    refine cm_getR (b := a + 3) dX5_itemKind_1 ha zr_X5_70 (vA_lt hva 0 (by decide)) (vA_0 hva) rfl rfl ?_
    refine mm_iload_n dX5_itemKind_4 rfl 3 rfl ?_
    refine cm_callVr (As := [.int (nI (p))]) (rest := []) (d2 := 0) dX5_itemKind_5 ha (vA_lt hva 3 (by decide)) (vA_3 hva) zz_clX6 zc_X5_202 zs_X6_kindAt rfl rfl (Nat.le_of_ble_eq_true rfl) (Nat.le_of_ble_eq_true rfl) (by decide) (cr_kindAt ha (vr_A hva) hw.1.1 h24 (by omega)) ?_
    refine mn_top (u := .int (nI (w.2.2.1 p))) (congrArg Value.int (by rw [if_pos hp]; exact hi.2.2.1.trans (if_neg hnd))) ?_
    refine mm_istore (L' := [(4, .int (nI (w.2.2.1 p))), (0, .ref (o + 3)), (1, .ref (o + a)), (2, .int (nI (16))), (3, .int (nI (p)))]) dX5_itemKind_8 (by decide) rfl ?_
    refine mm_iload_n dX5_itemKind_10 rfl 3 rfl ?_
    refine mm_tableIn (off := 110) (tgt := 121) dX5_itemKind_11 (by decide) (by decide) rfl (by decide) ?_
    refine mm_aload_n dX5_itemKind_121 rfl 2 rfl ?_
    refine cm_getR (b := a + 3) dX5_itemKind_122 ha zr_X5_70 (vA_lt hva 0 (by decide)) (vA_0 hva) rfl rfl ?_
    refine mm_iload_n dX5_itemKind_125 rfl 4 rfl ?_
    refine cm_callVr (As := [.int (nI (p))]) (rest := []) (d2 := 0) dX5_itemKind_126 ha (vA_lt hva 3 (by decide)) (vA_3 hva) zz_clX6 zc_X5_205 zs_X6_isColouredAt rfl rfl (Nat.le_of_ble_eq_true rfl) (Nat.le_of_ble_eq_true rfl) (by decide) (cr_isColouredAt ha (vr_A hva) hw.1.1 h24 (by omega) hcc) ?_
    refine mn_top (u := .int (nI (Bool.toNat (w.2.2.2 p)))) (congrArg Value.int (by rw [decide_eq_true hp, Bool.true_and])) ?_
    refine mn_ifB_eq (tgt := 139) dX5_itemKind_129 (by decide) (fun cb => ?_) (fun cb => ?_)
    · refine mm_iconst (v := (-1)) dX5_itemKind_139 (by decide) ?_
      refine mm_istore (L' := [(4, .int ((-1))), (0, .ref (o + 3)), (1, .ref (o + a)), (2, .int (nI (16))), (3, .int (nI (p)))]) dX5_itemKind_140 (by decide) rfl ?_
      refine mm_goto (tgt := 152) dX5_itemKind_142 (by decide) ?_
      refine mm_iload dX5_itemKind_152 0 rfl ?_
      refine mm_if_lt (tgt := 171) dX5_itemKind_154 (by decide) (fun c154 => ?_) (fun c154 => ?_)
      · refine mm_iconst (v := (-1)) dX5_itemKind_171 (by decide) ?_
        exact mm_iret dX5_itemKind_172 rfl (⟨rfl, by rw [(show ic_ w (gd_ sg) 16 p = if w.2.2.2 p = true ∧ 1 ≤ w.2.2.1 p ∧ w.2.2.1 p - 1 ≤ (gd_ sg) then some (w.2.2.1 p - 1) else none from rfl)]; first | (rw [if_pos (by omega)]; rfl) | (rw [if_neg (by omega)]; rfl) | (rw [if_pos ⟨cb, by omega⟩]; rfl) | (rw [if_neg (fun z => by have := z.2; omega)]; rfl) | (rw [if_neg (fun z => by rw [cb] at z; cases z.1)]; rfl) | (rw [if_pos ⟨cb, by omega, by omega⟩]; rfl)⟩)
      · exact absurd (by decide) c154
    · refine mm_iload dX5_itemKind_132 0 rfl ?_
      refine mm_iconst (v := nI 1) dX5_itemKind_134 (by decide) ?_
      rcases Nat.eq_zero_or_pos (w.2.2.1 p) with hz | hz
      · refine mm_isub dX5_itemKind_135 ?_
        refine mn_top (u := .int ((-1))) (congrArg Value.int (by rw [hz]; decide)) ?_
        refine mm_goto (tgt := 140) dX5_itemKind_136 (by decide) ?_
        refine mm_istore (L' := [(4, .int ((-1))), (0, .ref (o + 3)), (1, .ref (o + a)), (2, .int (nI (16))), (3, .int (nI (p)))]) dX5_itemKind_140 (by decide) rfl ?_
        refine mm_goto (tgt := 152) dX5_itemKind_142 (by decide) ?_
        refine mm_iload dX5_itemKind_152 0 rfl ?_
        refine mm_if_lt (tgt := 171) dX5_itemKind_154 (by decide) (fun c154 => ?_) (fun c154 => ?_)
        · refine mm_iconst (v := (-1)) dX5_itemKind_171 (by decide) ?_
          exact mm_iret dX5_itemKind_172 rfl (⟨rfl, by rw [(show ic_ w (gd_ sg) 16 p = if w.2.2.2 p = true ∧ 1 ≤ w.2.2.1 p ∧ w.2.2.1 p - 1 ≤ (gd_ sg) then some (w.2.2.1 p - 1) else none from rfl)]; first | (rw [if_pos (by omega)]; rfl) | (rw [if_neg (by omega)]; rfl) | (rw [if_pos ⟨cb, by omega⟩]; rfl) | (rw [if_neg (fun z => by have := z.2; omega)]; rfl) | (rw [if_neg (fun z => by rw [cb] at z; cases z.1)]; rfl) | (rw [if_pos ⟨cb, by omega, by omega⟩]; rfl)⟩)
        · exact absurd (by decide) c154
      · refine mn_isub dX5_itemKind_135 (by omega) ?_
        refine mm_goto (tgt := 140) dX5_itemKind_136 (by decide) ?_
        refine mm_istore (L' := [(4, .int (nI ((w.2.2.1 p) - (1)))), (0, .ref (o + 3)), (1, .ref (o + a)), (2, .int (nI (16))), (3, .int (nI (p)))]) dX5_itemKind_140 (by decide) rfl ?_
        refine mm_goto (tgt := 152) dX5_itemKind_142 (by decide) ?_
        refine mm_iload dX5_itemKind_152 0 rfl ?_
        refine mn_if_lt (tgt := 171) dX5_itemKind_154 (by decide) (by omega) ?_
        refine mm_iload dX5_itemKind_157 0 rfl ?_
        refine mm_aload_n dX5_itemKind_159 rfl 2 rfl ?_
        refine cm_getI dX5_itemKind_160 ha zr_X5_209 (vA_lt hva 0 (by decide)) (vA_0 hva) rfl ?_
        refine mn_top (u := .int (nI ((gd_ sg)))) (congrArg Value.int ((hs.2.2.1))) ?_
        refine mn_icmp_gt (tgt := 171) dX5_itemKind_163 (by decide) (by omega) (by omega) (fun c163 => ?_) (fun c163 => ?_)
        · refine mm_iconst (v := (-1)) dX5_itemKind_171 (by decide) ?_
          exact mm_iret dX5_itemKind_172 rfl (⟨rfl, by rw [(show ic_ w (gd_ sg) 16 p = if w.2.2.2 p = true ∧ 1 ≤ w.2.2.1 p ∧ w.2.2.1 p - 1 ≤ (gd_ sg) then some (w.2.2.1 p - 1) else none from rfl)]; first | (rw [if_pos (by omega)]; rfl) | (rw [if_neg (by omega)]; rfl) | (rw [if_pos ⟨cb, by omega⟩]; rfl) | (rw [if_neg (fun z => by have := z.2; omega)]; rfl) | (rw [if_neg (fun z => by rw [cb] at z; cases z.1)]; rfl) | (rw [if_pos ⟨cb, by omega, by omega⟩]; rfl)⟩)
        · refine mm_iload dX5_itemKind_166 0 rfl ?_
          refine mm_goto (tgt := 172) dX5_itemKind_168 (by decide) ?_
          exact mm_iret dX5_itemKind_172 rfl (⟨rfl, by rw [(show ic_ w (gd_ sg) 16 p = if w.2.2.2 p = true ∧ 1 ≤ w.2.2.1 p ∧ w.2.2.1 p - 1 ≤ (gd_ sg) then some (w.2.2.1 p - 1) else none from rfl)]; first | (rw [if_pos (by omega)]; rfl) | (rw [if_neg (by omega)]; rfl) | (rw [if_pos ⟨cb, by omega⟩]; rfl) | (rw [if_neg (fun z => by have := z.2; omega)]; rfl) | (rw [if_neg (fun z => by rw [cb] at z; cases z.1)]; rfl) | (rw [if_pos ⟨cb, by omega, by omega⟩]; rfl)⟩)
  · refine mm_aload_n dX5_itemKind_0 rfl 1 rfl ?_
    refine cm_getR (b := a + 3) dX5_itemKind_1 ha zr_X5_70 (vA_lt hva 0 (by decide)) (vA_0 hva) rfl rfl ?_
    refine mm_iload_n dX5_itemKind_4 rfl 3 rfl ?_
    refine cm_callVr (As := [.int (nI (p))]) (rest := []) (d2 := 0) dX5_itemKind_5 ha (vA_lt hva 3 (by decide)) (vA_3 hva) zz_clX6 zc_X5_202 zs_X6_kindAt rfl rfl (Nat.le_of_ble_eq_true rfl) (Nat.le_of_ble_eq_true rfl) (by decide) (cr_kindAt ha (vr_A hva) hw.1.1 h24 (by omega)) ?_
    refine mn_top (u := .int (nI (w.2.2.1 p))) (congrArg Value.int (by rw [if_pos hp]; exact hi.2.2.1.trans (if_neg hnd))) ?_
    refine mm_istore (L' := [(4, .int (nI (w.2.2.1 p))), (0, .ref (o + 3)), (1, .ref (o + a)), (2, .int (nI (17))), (3, .int (nI (p)))]) dX5_itemKind_8 (by decide) rfl ?_
    refine mm_iload_n dX5_itemKind_10 rfl 3 rfl ?_
    refine mm_tableIn (off := 134) (tgt := 145) dX5_itemKind_11 (by decide) (by decide) rfl (by decide) ?_
    refine mm_iconst (v := (-1)) dX5_itemKind_145 (by decide) ?_
    exact mm_iret dX5_itemKind_146 rfl (⟨rfl, rfl⟩)
  · refine mm_aload_n dX5_itemKind_0 rfl 1 rfl ?_
    refine cm_getR (b := a + 3) dX5_itemKind_1 ha zr_X5_70 (vA_lt hva 0 (by decide)) (vA_0 hva) rfl rfl ?_
    refine mm_iload_n dX5_itemKind_4 rfl 3 rfl ?_
    refine cm_callVr (As := [.int (nI (p))]) (rest := []) (d2 := 0) dX5_itemKind_5 ha (vA_lt hva 3 (by decide)) (vA_3 hva) zz_clX6 zc_X5_202 zs_X6_kindAt rfl rfl (Nat.le_of_ble_eq_true rfl) (Nat.le_of_ble_eq_true rfl) (by decide) (cr_kindAt ha (vr_A hva) hw.1.1 h24 (by omega)) ?_
    refine mn_top (u := .int (nI (w.2.2.1 p))) (congrArg Value.int (by rw [if_pos hp]; exact hi.2.2.1.trans (if_neg hnd))) ?_
    refine mm_istore (L' := [(4, .int (nI (w.2.2.1 p))), (0, .ref (o + 3)), (1, .ref (o + a)), (2, .int (nI (18))), (3, .int (nI (p)))]) dX5_itemKind_8 (by decide) rfl ?_
    refine mm_iload_n dX5_itemKind_10 rfl 3 rfl ?_
    refine mm_tableIn (off := 85) (tgt := 96) dX5_itemKind_11 (by decide) (by decide) rfl (by decide) ?_
    refine mm_goto (tgt := 152) dX5_itemKind_96 (by decide) ?_
    refine mm_iload dX5_itemKind_152 0 rfl ?_
    refine mn_if_lt (tgt := 171) dX5_itemKind_154 (by decide) (by omega) ?_
    refine mm_iload dX5_itemKind_157 0 rfl ?_
    refine mm_aload_n dX5_itemKind_159 rfl 2 rfl ?_
    refine cm_getI dX5_itemKind_160 ha zr_X5_209 (vA_lt hva 0 (by decide)) (vA_0 hva) rfl ?_
    refine mn_top (u := .int (nI ((gd_ sg)))) (congrArg Value.int ((hs.2.2.1))) ?_
    refine mn_icmp_gt (tgt := 171) dX5_itemKind_163 (by decide) (by omega) (by omega) (fun c163 => ?_) (fun c163 => ?_)
    · refine mm_iconst (v := (-1)) dX5_itemKind_171 (by decide) ?_
      exact mm_iret dX5_itemKind_172 rfl (⟨rfl, by rw [(show ic_ w (gd_ sg) 18 p = if w.2.2.1 p ≤ (gd_ sg) then some (w.2.2.1 p) else none from rfl)]; first | (rw [if_pos (by omega)]; rfl) | (rw [if_neg (by omega)]; rfl) | (rw [if_pos ⟨cb, by omega⟩]; rfl) | (rw [if_neg (fun z => by have := z.2; omega)]; rfl) | (rw [if_neg (fun z => by rw [cb] at z; cases z.1)]; rfl) | (rw [if_pos ⟨cb, by omega, by omega⟩]; rfl)⟩)
    · refine mm_iload dX5_itemKind_166 0 rfl ?_
      refine mm_goto (tgt := 172) dX5_itemKind_168 (by decide) ?_
      exact mm_iret dX5_itemKind_172 rfl (⟨rfl, by rw [(show ic_ w (gd_ sg) 18 p = if w.2.2.1 p ≤ (gd_ sg) then some (w.2.2.1 p) else none from rfl)]; first | (rw [if_pos (by omega)]; rfl) | (rw [if_neg (by omega)]; rfl) | (rw [if_pos ⟨cb, by omega⟩]; rfl) | (rw [if_neg (fun z => by have := z.2; omega)]; rfl) | (rw [if_neg (fun z => by rw [cb] at z; cases z.1)]; rfl) | (rw [if_pos ⟨cb, by omega, by omega⟩]; rfl)⟩)
set_option maxRecDepth 100000 in
set_option maxHeartbeats 4000000 in
theorem cR_unit {l : Launch} {D : va_G} {aa : Nat → ClassId} {b0 : Nat} {h : mm_H} {o : Nat} {X : Nat → Nat → Int32} {Y : Nat → Nat → Int64} {rl : Option Nat} {w : ro_w} {sg a dt : Nat} {E U P H PL RS CO AL LI : Nat → Nat} {m t k c f q0 : Nat} {r : List gK} {fs vs : List Nat} (ha : cm_at o X Y rl h) (hva : vA a) (hrq : rq_ X w sg a dt E U P H PL RS CO AL LI) (hm : X 4 6 = nI m) (hm8 : m + (ts_ sg k f).length ≤ 128) (hct : ct_ X w sg (gd_ sg) r t) (htm : t < m) (hdr : dr_ X fs vs c) (hpv : vs.length + (iv_ sg k f).length ≤ 24) (hk : k ≤ 6) (hh : hd_ w sg (gd_ sg) k f q0 = true) (hg : (gd_ sg) ≤ k ∨ f = 1 ∨ f = 2 ∨ 15 ≤ f) (hf : 1 ≤ f ∧ f ≤ 11) : mm_V (zz_K l D aa b0) 2 yX5_partsOfUnit cX5_partsOfUnit 8 (some .int) 0 [(0, .ref (o + 3)), (1, .ref (o + a)), (2, .int (nI (f))), (3, .int (nI (k))), (4, .int (nI (t)))] [] h 0 0 (fun rv h' => ∃ (X' : Nat → Nat → Int32) (t' : Nat), rv = some (.int (nI t')) ∧ cm_at o X' Y rl h' ∧ cm_fr o h h' ∧ rx_ m fs.length vs.length X X' ∧ X' 4 6 = nI (m + (ts_ sg k f).length) ∧ t' < m + (ts_ sg k f).length ∧ ct_ X' w sg (gd_ sg) (ts_ sg k f ++ r) t' ∧ dr_ X' fs (vs ++ iv_ sg k f) c) := by
  have hfs : f = 1 ∨ f = 2 ∨ f = 3 ∨ f = 4 ∨ f = 5 ∨ f = 6 ∨ f = 7 ∨ f = 8 ∨ f = 9 ∨ f = 10 ∨ f = 11 := by omega
  rcases hfs with rfl | rfl | rfl | rfl | rfl | rfl | rfl | rfl | rfl | rfl | rfl
  · cases hpf : sp_perf sg k with
    | true => have e : ts_ sg k 1 = [(6, k, 0)] := by unfold ts_ dv_; rw [if_pos (by omega), if_pos hpf]; rfl
              rw [e] at hm8 ⊢; exact cR_p1p ha hva hrq hm hm8 hct htm hdr hpv hk hpf
    | false => have e : ts_ sg k 1 = [] := by unfold ts_ dv_; rw [if_pos (by omega), if_neg (by rw [hpf]; decide)]; rfl
               rw [e] at hm8 ⊢; exact cR_p1i ha hva hrq hm hm8 hct htm hdr hpv hk hpf
  · cases hpf : sp_perf sg k with
    | true => have e : ts_ sg k 2 = [(6, k, 0)] := by unfold ts_ dv_; rw [if_pos (by omega), if_pos hpf]; rfl
              rw [e] at hm8 ⊢; exact cR_p2p ha hva hrq hm hm8 hct htm hdr hpv hk hpf
    | false => have e : ts_ sg k 2 = [] := by unfold ts_ dv_; rw [if_pos (by omega), if_neg (by rw [hpf]; decide)]; rfl
               rw [e] at hm8 ⊢; exact cR_p2i ha hva hrq hm hm8 hct htm hdr hpv hk hpf
  · have h2 : sp_perf sg k = true := by unfold hd_ at hh; simp at hh; exact hh.1
    exact cR_p3p ha hva hrq hm hm8 hct htm hdr hpv hk h2
  · have h2 : sp_perf sg k = false ∧ k < 6 := by unfold hd_ at hh; simp at hh; exact hh
    exact cR_p4i ha hva hrq hm hm8 hct htm hdr hpv hk h2.1 (by omega) (by omega)
  · have h2 : sp_perf sg k = false ∧ k < 6 := by unfold hd_ at hh; simp at hh; exact hh
    exact cR_p5i ha hva hrq hm hm8 hct htm hdr hpv hk h2.1 (by omega) (by omega)
  · have h2 : sp_perf sg k = true := by unfold hd_ at hh; simp at hh; exact hh
    have h4 := perf_lt h2
    have e : ts_ sg k 6 = [(1, k + 1, 0), (1, k + 1, 0), (1, k + 1, 0), (6, k, 0)] := by unfold ts_ dv_; rw [if_pos (show 6 ≤ 2 ∨ 6 ≤ 6 ∧ 6 ≤ 11 by omega), if_pos h2]; rfl
    rw [e] at hm8 ⊢; exact cR_p6p ha hva hrq hm hm8 hct htm hdr hpv hk h2 (by omega) (by omega)
  · have h2 : sp_perf sg k = true := by unfold hd_ at hh; simp at hh; exact hh.1
    have h4 := perf_lt h2
    have e : ts_ sg k 7 = [(1, k + 1, 0), (6, k, 0)] := by unfold ts_ dv_; rw [if_pos (show 7 ≤ 2 ∨ 6 ≤ 7 ∧ 7 ≤ 11 by omega), if_pos h2]; rfl
    rw [e] at hm8 ⊢; exact cR_p7p ha hva hrq hm hm8 hct htm hdr hpv hk h2 (by omega) (by omega)
  · have h2 : sp_perf sg k = true := by unfold hd_ at hh; simp at hh; exact hh
    have h4 := perf_lt h2
    have e : ts_ sg k 8 = [(1, k + 1, 0), (4, k + 1, 2 * fl_ sg (k + 1)), (6, k, 0)] := by unfold ts_ dv_; rw [if_pos (show 8 ≤ 2 ∨ 6 ≤ 8 ∧ 8 ≤ 11 by omega), if_pos h2]; rfl
    rw [e] at hm8 ⊢; exact cR_p8p ha hva hrq hm hm8 hct htm hdr hpv hk h2 (by omega) (by omega)
  · have h2 : sp_perf sg k = true := by unfold hd_ at hh; simp at hh; exact hh
    have h4 := perf_lt h2
    have e : ts_ sg k 9 = [(1, k + 1, 0), (7, k, 2 * fl_ sg (k + 1)), (6, k, 0)] := by unfold ts_ dv_; rw [if_pos (show 9 ≤ 2 ∨ 6 ≤ 9 ∧ 9 ≤ 11 by omega), if_pos h2]; rfl
    rw [e] at hm8 ⊢; exact cR_p9p ha hva hrq hm hm8 hct htm hdr hpv hk h2 (by omega) (by omega)
  · have h2 : sp_perf sg k = true := by unfold hd_ at hh; simp at hh; exact hh
    have h4 := perf_lt h2
    have e : ts_ sg k 10 = [(1, k + 1, 0), (2, k + 1, 0), (6, k, 0)] := by unfold ts_ dv_; rw [if_pos (show 10 ≤ 2 ∨ 6 ≤ 10 ∧ 10 ≤ 11 by omega), if_pos h2]; rfl
    rw [e] at hm8 ⊢; exact cR_p10p ha hva hrq hm hm8 hct htm hdr hpv hk h2 (by omega) (by omega)
  · have h2 : sp_perf sg k = true := by unfold hd_ at hh; simp at hh; exact hh
    have h4 := perf_lt h2
    have e : ts_ sg k 11 = [(2, k + 1, 0), (1, k + 1, 0), (6, k, 0)] := by unfold ts_ dv_; rw [if_pos (show 11 ≤ 2 ∨ 6 ≤ 11 ∧ 11 ≤ 11 by omega), if_pos h2]; rfl
    rw [e] at hm8 ⊢; exact cR_p11p ha hva hrq hm hm8 hct htm hdr hpv hk h2 (by omega) (by omega)
set_option maxRecDepth 100000 in
set_option maxHeartbeats 4000000 in
theorem cR_oth {l : Launch} {D : va_G} {aa : Nat → ClassId} {b0 : Nat} {h : mm_H} {o : Nat} {X : Nat → Nat → Int32} {Y : Nat → Nat → Int64} {rl : Option Nat} {w : ro_w} {sg a dt : Nat} {E U P H PL RS CO AL LI : Nat → Nat} {m t k c f q0 : Nat} {r : List gK} {fs vs : List Nat} (ha : cm_at o X Y rl h) (hva : vA a) (hrq : rq_ X w sg a dt E U P H PL RS CO AL LI) (hm : X 4 6 = nI m) (hm8 : m + (ts_ sg k f).length ≤ 128) (hct : ct_ X w sg (gd_ sg) r t) (htm : t < m) (hdr : dr_ X fs vs c) (hpv : vs.length + (iv_ sg k f).length ≤ 24) (hk : k ≤ 6) (hh : hd_ w sg (gd_ sg) k f q0 = true) (hg : (gd_ sg) ≤ k ∨ f = 1 ∨ f = 2 ∨ 15 ≤ f) (hf : 13 ≤ f ∧ f ≤ 18) : mm_V (zz_K l D aa b0) 2 yX5_partsOfOthers cX5_partsOfOthers 7 (some .int) 0 [(0, .ref (o + 3)), (1, .ref (o + a)), (2, .int (nI (f))), (3, .int (nI (k))), (4, .int (nI (t)))] [] h 0 0 (fun rv h' => ∃ (X' : Nat → Nat → Int32) (t' : Nat), rv = some (.int (nI t')) ∧ cm_at o X' Y rl h' ∧ cm_fr o h h' ∧ rx_ m fs.length vs.length X X' ∧ X' 4 6 = nI (m + (ts_ sg k f).length) ∧ t' < m + (ts_ sg k f).length ∧ ct_ X' w sg (gd_ sg) (ts_ sg k f ++ r) t' ∧ dr_ X' fs (vs ++ iv_ sg k f) c) := by
  have hfs : f = 13 ∨ f = 14 ∨ f = 15 ∨ f = 16 ∨ f = 17 ∨ f = 18 := by omega
  rcases hfs with rfl | rfl | rfl | rfl | rfl | rfl
  · have h2 : k < 6 := by unfold hd_ at hh; simp at hh; exact hh.1.2
    exact cR_p13 ha hva hrq hm hm8 hct htm hdr hpv hk (by omega) (by omega)
  · have h2 : k < 6 := by unfold hd_ at hh; simp at hh; exact hh.2
    exact cR_p14 ha hva hrq hm hm8 hct htm hdr hpv hk (by omega) (by omega)
  · exact cR_p15 ha hva hrq hm hm8 hct htm hdr hpv hk
  · exact cR_p16 ha hva hrq hm hm8 hct htm hdr hpv hk
  · exact cR_p17 ha hva hrq hm hm8 hct htm hdr hpv hk
  · have h2 : k < (gd_ sg) := by unfold hd_ at hh; simp at hh; exact hh.1
    have h3 := gd_ok (sg := sg)
    exact cR_p18 ha hva hrq hm hm8 hct htm hdr hpv hk (h3.2 k h2) (by omega)
theorem te_pack {o : Nat} {X : Nat → Nat → Int32} {Y : Nat → Nat → Int64} {rl : Option Nat} {h : mm_H} {fs vs : List Nat} {c f : Nat} (ha : cm_at o (xu (xu (xu X 26 fs.length (nI f)) 25 2 (nI (fs.length + 1))) 25 3 (nI (sn_ fs + wt_ f))) Y rl h) (hdr : dr_ X fs vs c) : ∃ X2, cm_at o X2 Y rl h ∧ (∀ m, rx_ m fs.length vs.length X X2) ∧ dr_ X2 (fs ++ [f]) vs c ∧ ∀ b i, b < 25 → X2 b i = X b i :=
  ⟨_, ha, fun _ => rx_tell, dr_tell hdr, fun b i hb => (xu_a (by omega)).trans ((xu_a (by omega)).trans (xu_a (by omega)))⟩
theorem rx_task {m n p : Nat} {X : Nat → Nat → Int32} {v : Int32} : rx_ m n p X (xu X 3 10 v) := fun b i z => xu_z (by omega)
set_option maxRecDepth 100000 in
set_option maxHeartbeats 4000000 in
theorem cR_chooseR {l : Launch} {D : va_G} {aa : Nat → ClassId} {b0 : Nat} {h : mm_H} {o : Nat} {X : Nat → Nat → Int32} {Y : Nat → Nat → Int64} {rl : Option Nat} {w : ro_w} {sg a dt : Nat} {E U P H PL RS CO AL LI : Nat → Nat} {m t k c f ch : Nat} {fs vs : List Nat} (ha : cm_at o X Y rl h) (hva : vA a) (hrq : rq_ X w sg a dt E U P H PL RS CO AL LI) (hm : X 4 6 = nI m) (hm8 : m + (ts_ sg k f).length ≤ 128) (htk : X 3 10 = nI t) (hct : ct_ X w sg (gd_ sg) ([]) t) (htm : t < m) (hdr : dr_ X fs vs c) (hfl : fs.length < 48) (hpv : vs.length + (iv_ sg k f).length ≤ 24) (hk : k ≤ 6) (hch : 1 ≤ ch ∧ ch ≤ 18) (hkf : kf_ w (gd_ sg) ([]) vs.length ch = some (k, f)) (hh : hd_ w sg (gd_ sg) k f vs.length = true) (hg : (gd_ sg) ≤ k ∨ f = 1 ∨ f = 2 ∨ 15 ≤ f) (hp : vs.length < w.1) (hnd : ¬ w.2.1 vs.length = 3) : mm_V (zz_K l D aa b0) 3 yX5_choose cX5_choose 7 none 0 [(0, .ref (o + 3)), (1, .ref (o + a)), (2, .int (nI (ch)))] [] h 0 0 (fun rv h' => rv = none ∧ ∃ (X' : Nat → Nat → Int32) (t' : Nat), cm_at o X' Y rl h' ∧ cm_fr o h h' ∧ rx_ m fs.length vs.length X X' ∧ X' 3 10 = nI t' ∧ X' 4 6 = nI (m + (ts_ sg k f).length) ∧ t' < m + (ts_ sg k f).length ∧ ct_ X' w sg (gd_ sg) (ts_ sg k f ++ []) t' ∧ dr_ X' (fs ++ [f]) (vs ++ iv_ sg k f) c) := by
  have hf := cm_fr.rf (o := o) (h := h)
  have h12 : f ≠ 12 := fun z => by rw [z] at hh; cases hh
  have hkf : (ic_ w (gd_ sg) ch vs.length).map (fun k => (k, if_ ch)) = some (k, f) := hkf
  have hic : ic_ w (gd_ sg) ch vs.length = some k := by
    cases hi : ic_ w (gd_ sg) ch vs.length with
    | none => rw [hi] at hkf; cases hkf
    | some k1 => rw [hi] at hkf; exact congrArg some (congrArg Prod.fst (Option.some.inj hkf))
  have hif : if_ ch = f := by rw [hic] at hkf; exact congrArg Prod.snd (Option.some.inj hkf)
  have h18 : f ≤ 18 := by rw [← hif]; unfold if_; split <;> omega
  have h1f : 1 ≤ f := by rw [← hif]; unfold if_; split <;> omega
  have ht0 : t = 0 := hct
  subst ht0
  have h5 := hrq.2.1.1
  have h8 := hrq.2.1.2.1
  refine mm_aload_n dX5_choose_0 rfl 0 rfl ?_
  refine cm_getR (b := 4) dX5_choose_1 ha zr_X5_14 (by decide) rfl rfl rfl ?_
  refine mm_aload_n dX5_choose_4 rfl 0 rfl ?_
  refine cm_getI dX5_choose_5 ha zr_X5_109 (by decide) rfl rfl ?_
  refine mn_top (u := .int (nI (0))) (congrArg Value.int ((htk))) ?_
  refine cm_callVr (As := [.int (nI (0))]) (rest := []) (d2 := 0) dX5_choose_8 ha (by decide) rfl zz_clX0 zc_X5_112 zs_X0_sortOf rfl rfl (Nat.le_of_ble_eq_true rfl) (Nat.le_of_ble_eq_true rfl) (by decide) (cc_sortOf ha (by omega)) ?_
  refine mn_top (u := .int (nI (0))) (congrArg Value.int (by rw [if_pos (by decide)]; exact h5)) ?_
  refine mn_if_ne (tgt := 18) dX5_choose_11 (by decide) (by omega) (fun c11 => ?_) (fun c11 => ?_)
  · exact absurd rfl c11
  · refine mm_iconst (v := nI 1) dX5_choose_14 (by decide) ?_
    refine mm_goto (tgt := 19) dX5_choose_15 (by decide) ?_
    refine mm_istore_n (L' := [(3, .int (nI (1))), (0, .ref (o + 3)), (1, .ref (o + a)), (2, .int (nI (ch)))]) dX5_choose_19 rfl (by decide) rfl ?_
    refine mm_iload_n dX5_choose_20 rfl 0 rfl ?_
    refine mn_if_eq (tgt := 40) dX5_choose_21 (by decide) (by omega) (fun c21 => ?_) (fun c21 => ?_)
    · exact absurd c21 (by decide)
    · refine mm_aload_n dX5_choose_24 rfl 1 rfl ?_
      refine mm_aload_n dX5_choose_25 rfl 2 rfl ?_
      refine mm_iload_n dX5_choose_26 rfl 3 rfl ?_
      refine mm_aload_n dX5_choose_27 rfl 1 rfl ?_
      refine cm_getR (b := 25) dX5_choose_28 ha zr_X5_28 (by decide) rfl rfl rfl ?_
      refine cm_getI dX5_choose_31 ha zr_X5_116 (by decide) rfl rfl ?_
      refine mn_top (u := .int (nI (vs.length))) (congrArg Value.int ((hdr.1.2.2.1))) ?_
      refine cm_callVr (As := [.ref (o + a), .int (nI (ch)), .int (nI (vs.length))]) (rest := []) (d2 := 1) dX5_choose_34 ha (by decide) rfl zz_clX5 zc_X5_188 zs_X5_itemKind rfl rfl (Nat.le_of_ble_eq_true rfl) (Nat.le_of_ble_eq_true rfl) (by decide) (cR_itemKind ha hva hrq.2.2.1 hrq.2.2.2 hp hnd hch) ?_
      refine mn_top (u := .int (nI (k))) (congrArg Value.int (by rw [hic]; rfl)) ?_
      refine mm_goto (tgt := 51) dX5_choose_37 (by decide) ?_
      refine mm_istore (L' := [(4, .int (nI (k))), (3, .int (nI (1))), (0, .ref (o + 3)), (1, .ref (o + a)), (2, .int (nI (ch)))]) dX5_choose_51 (by decide) rfl ?_
      refine mm_iload_n dX5_choose_53 rfl 1 rfl ?_
      refine mn_if_eq (tgt := 64) dX5_choose_54 (by decide) (by omega) (fun c54 => ?_) (fun c54 => ?_)
      · exact absurd c54 (by decide)
      · refine mm_iload_n dX5_choose_57 rfl 4 rfl ?_
        refine rm_callSr (As := [.int (nI (ch))]) (rest := []) (d2 := 0) dX5_choose_58 zc_X5_195 rfl rfl (Nat.le_of_ble_eq_true rfl) (Nat.le_of_ble_eq_true rfl) (by decide) (cR_itemForm (by omega)) ?_
        refine mn_top (u := .int (nI (f))) (congrArg Value.int (by rw [hif])) ?_
        refine mm_goto (tgt := 65) dX5_choose_61 (by decide) ?_
        refine mm_istore (L' := [(5, .int (nI (f))), (4, .int (nI (k))), (3, .int (nI (1))), (0, .ref (o + 3)), (1, .ref (o + a)), (2, .int (nI (ch)))]) dX5_choose_65 (by decide) rfl ?_
        refine mm_aload_n dX5_choose_67 rfl 3 rfl ?_
        refine cm_getR (b := 4) dX5_choose_68 ha zr_X5_14 (by decide) rfl rfl rfl ?_
        refine mm_aload_n dX5_choose_71 rfl 3 rfl ?_
        refine cm_getI dX5_choose_72 ha zr_X5_109 (by decide) rfl rfl ?_
        refine mn_top (u := .int (nI (0))) (congrArg Value.int ((htk))) ?_
        refine cm_callVr (As := [.int (nI (0))]) (rest := []) (d2 := 0) dX5_choose_75 ha (by decide) rfl zz_clX0 zc_X5_177 zs_X0_restOf rfl rfl (Nat.le_of_ble_eq_true rfl) (Nat.le_of_ble_eq_true rfl) (by decide) (cc_restOf ha (by omega)) ?_
        refine mn_top (u := .int (nI (0))) (congrArg Value.int (by rw [if_pos (by decide)]; exact h8)) ?_
        refine mm_istore (L' := [(6, .int (nI (0))), (5, .int (nI (f))), (4, .int (nI (k))), (3, .int (nI (1))), (0, .ref (o + 3)), (1, .ref (o + a)), (2, .int (nI (ch)))]) dX5_choose_78 (by decide) rfl ?_
        refine mm_aload_n dX5_choose_80 rfl 4 rfl ?_
        refine cm_getR (b := 25) dX5_choose_81 ha zr_X5_28 (by decide) rfl rfl rfl ?_
        refine mm_iload dX5_choose_84 1 rfl ?_
        refine cm_callV (As := [.int (nI (f))]) (rest := []) (d2 := 0) dX5_choose_86 ha (by decide) rfl zz_clX1 zc_X5_212 zs_X1_tell rfl rfl (Nat.le_of_ble_eq_true rfl) (Nat.le_of_ble_eq_true rfl) (by decide) (cd_tell ha hdr.1.1 hfl hdr.1.2.1 (by omega)) (fun r h1 hq => ?_)
        obtain ⟨rfl, ha, hf'⟩ := hq
        have hf := hf.tr hf'
        obtain ⟨X2, ha, hrx, hdr, hlo⟩ := te_pack ha hdr
        have hrq := (hrx m).q (by omega) hva hrq
        have hm := (hlo 4 6 (by decide)).trans hm
        refine mm_aload_n dX5_choose_89 rfl 4 rfl ?_
        refine mm_iload dX5_choose_90 1 rfl ?_
        refine mm_bipush (v := nI 11) dX5_choose_92 (by decide) ?_
        refine mn_icmp_gt (tgt := 111) dX5_choose_94 (by decide) (by omega) (by omega) (fun c94 => ?_) (fun c94 => ?_)
        · refine mm_aload_n dX5_choose_111 rfl 4 rfl ?_
          refine mm_aload_n dX5_choose_112 rfl 5 rfl ?_
          refine mm_iload dX5_choose_113 1 rfl ?_
          refine mm_iload dX5_choose_115 2 rfl ?_
          refine mm_iload dX5_choose_117 0 rfl ?_
          refine cm_callV (As := [.ref (o + a), .int (nI (f)), .int (nI (k)), .int (nI (0))]) (rest := [.ref (o + 3)]) (d2 := 2) dX5_choose_119 ha (by decide) rfl zz_clX5 zc_X5_218 zs_X5_partsOfOthers rfl rfl (Nat.le_of_ble_eq_true rfl) (Nat.le_of_ble_eq_true rfl) (by decide) (cR_oth ha hva hrq hm hm8 (show ct_ X2 w sg (gd_ sg) [] 0 from rfl) (by omega) hdr hpv hk hh hg (by omega)) (fun r h1 hq => ?_)
          obtain ⟨X3, t', rfl, ha, hf', hrx', hm, htm', hct, hdr⟩ := hq
          have hf := hf.tr hf'
          refine cm_putI dX5_choose_122 ha hf zp_X5_109 (by decide) rfl rfl rfl rfl (fun h1 ha hf => ?_)
          exact mm_vret dX5_choose_125 rfl (⟨rfl, _, t', ha, hf, (((hrx m).tr hrx' (Nat.le_refl _) (by rw [List.length_append]; omega) (Nat.le_refl _)).tr (rx_task (m := m) (n := fs.length) (p := vs.length)) (Nat.le_refl _) (Nat.le_refl _) (Nat.le_refl _)), xu_s, (xu_a (by decide)).trans hm, htm', ct_x hct (fun b i h1 h2 h3 => xu_a (by omega)), dr_x hdr (fun b i z => xu_a (by omega))⟩)
        · refine mm_aload_n dX5_choose_97 rfl 4 rfl ?_
          refine mm_aload_n dX5_choose_98 rfl 5 rfl ?_
          refine mm_iload dX5_choose_99 1 rfl ?_
          refine mm_iload dX5_choose_101 2 rfl ?_
          refine mm_iload dX5_choose_103 0 rfl ?_
          refine cm_callV (As := [.ref (o + a), .int (nI (f)), .int (nI (k)), .int (nI (0))]) (rest := [.ref (o + 3)]) (d2 := 2) dX5_choose_105 ha (by decide) rfl zz_clX5 zc_X5_215 zs_X5_partsOfUnit rfl rfl (Nat.le_of_ble_eq_true rfl) (Nat.le_of_ble_eq_true rfl) (by decide) (cR_unit ha hva hrq hm hm8 (show ct_ X2 w sg (gd_ sg) [] 0 from rfl) (by omega) hdr hpv hk hh hg (by omega)) (fun r h1 hq => ?_)
          obtain ⟨X3, t', rfl, ha, hf', hrx', hm, htm', hct, hdr⟩ := hq
          have hf := hf.tr hf'
          refine mm_goto (tgt := 122) dX5_choose_108 (by decide) ?_
          refine cm_putI dX5_choose_122 ha hf zp_X5_109 (by decide) rfl rfl rfl rfl (fun h1 ha hf => ?_)
          exact mm_vret dX5_choose_125 rfl (⟨rfl, _, t', ha, hf, (((hrx m).tr hrx' (Nat.le_refl _) (by rw [List.length_append]; omega) (Nat.le_refl _)).tr (rx_task (m := m) (n := fs.length) (p := vs.length)) (Nat.le_refl _) (Nat.le_refl _) (Nat.le_refl _)), xu_s, (xu_a (by decide)).trans hm, htm', ct_x hct (fun b i h1 h2 h3 => xu_a (by omega)), dr_x hdr (fun b i z => xu_a (by omega))⟩)
set_option maxRecDepth 100000 in
set_option maxHeartbeats 4000000 in
theorem cR_chooseT {l : Launch} {D : va_G} {aa : Nat → ClassId} {b0 : Nat} {h : mm_H} {o : Nat} {X : Nat → Nat → Int32} {Y : Nat → Nat → Int64} {rl : Option Nat} {w : ro_w} {sg a dt : Nat} {E U P H PL RS CO AL LI : Nat → Nat} {m t k c f ch : Nat} {fs vs : List Nat} {u : gK} {r : List gK} (ha : cm_at o X Y rl h) (hva : vA a) (hrq : rq_ X w sg a dt E U P H PL RS CO AL LI) (hm : X 4 6 = nI m) (hm8 : m + (ts_ sg k f).length ≤ 128) (htk : X 3 10 = nI t) (hct : ct_ X w sg (gd_ sg) (u :: r) t) (htm : t < m) (hdr : dr_ X fs vs c) (hfl : fs.length < 48) (hpv : vs.length + (iv_ sg k f).length ≤ 24) (hk : k ≤ 6) (hch : 1 ≤ ch ∧ ch ≤ 18) (hkf : kf_ w (gd_ sg) (u :: r) vs.length ch = some (k, f)) (hh : hd_ w sg (gd_ sg) k f vs.length = true) (hg : (gd_ sg) ≤ k ∨ f = 1 ∨ f = 2 ∨ 15 ≤ f) (hu : u.1 = 1 ∨ u.1 = 2 ∨ u.1 = 3) : mm_V (zz_K l D aa b0) 3 yX5_choose cX5_choose 7 none 0 [(0, .ref (o + 3)), (1, .ref (o + a)), (2, .int (nI (ch)))] [] h 0 0 (fun rv h' => rv = none ∧ ∃ (X' : Nat → Nat → Int32) (t' : Nat), cm_at o X' Y rl h' ∧ cm_fr o h h' ∧ rx_ m fs.length vs.length X X' ∧ X' 3 10 = nI t' ∧ X' 4 6 = nI (m + (ts_ sg k f).length) ∧ t' < m + (ts_ sg k f).length ∧ ct_ X' w sg (gd_ sg) (ts_ sg k f ++ r) t' ∧ dr_ X' (fs ++ [f]) (vs ++ iv_ sg k f) c) := by
  have hf := cm_fr.rf (o := o) (h := h)
  have h12 : f ≠ 12 := fun z => by rw [z] at hh; cases hh
  have e0 := Option.some.inj (show some (u.2.1, ch) = some (k, f) from hkf)
  have e1 : u.2.1 = k := congrArg Prod.fst e0
  have e2 : ch = f := congrArg Prod.snd e0
  have h18 : f ≤ 18 := by omega
  have h1f : 1 ≤ f := by omega
  obtain ⟨⟨ht0, ht8⟩, h5, h6, -, -, t1, ht1, h8, hct1⟩ := hct
  rw [if_neg (by omega)] at h5
  have h6 := h6 (by omega)
  refine mm_aload_n dX5_choose_0 rfl 0 rfl ?_
  refine cm_getR (b := 4) dX5_choose_1 ha zr_X5_14 (by decide) rfl rfl rfl ?_
  refine mm_aload_n dX5_choose_4 rfl 0 rfl ?_
  refine cm_getI dX5_choose_5 ha zr_X5_109 (by decide) rfl rfl ?_
  refine mn_top (u := .int (nI (t))) (congrArg Value.int ((htk))) ?_
  refine cm_callVr (As := [.int (nI (t))]) (rest := []) (d2 := 0) dX5_choose_8 ha (by decide) rfl zz_clX0 zc_X5_112 zs_X0_sortOf rfl rfl (Nat.le_of_ble_eq_true rfl) (Nat.le_of_ble_eq_true rfl) (by decide) (cc_sortOf ha (by omega)) ?_
  refine mn_top (u := .int (nI (u.1))) (congrArg Value.int (by rw [if_pos ht8]; exact h5)) ?_
  refine mn_if_ne (tgt := 18) dX5_choose_11 (by decide) (by omega) (fun c11 => ?_) (fun c11 => ?_)
  · refine mm_iconst (v := nI 0) dX5_choose_18 (by decide) ?_
    refine mm_istore_n (L' := [(3, .int (nI (0))), (0, .ref (o + 3)), (1, .ref (o + a)), (2, .int (nI (ch)))]) dX5_choose_19 rfl (by decide) rfl ?_
    refine mm_iload_n dX5_choose_20 rfl 0 rfl ?_
    refine mn_if_eq (tgt := 40) dX5_choose_21 (by decide) (by omega) (fun c21 => ?_) (fun c21 => ?_)
    · refine mm_aload_n dX5_choose_40 rfl 1 rfl ?_
      refine cm_getR (b := 4) dX5_choose_41 ha zr_X5_14 (by decide) rfl rfl rfl ?_
      refine mm_aload_n dX5_choose_44 rfl 1 rfl ?_
      refine cm_getI dX5_choose_45 ha zr_X5_109 (by decide) rfl rfl ?_
      refine mn_top (u := .int (nI (t))) (congrArg Value.int ((htk))) ?_
      refine cm_callVr (As := [.int (nI (t))]) (rest := []) (d2 := 0) dX5_choose_48 ha (by decide) rfl zz_clX0 zc_X5_192 zs_X0_kindOf rfl rfl (Nat.le_of_ble_eq_true rfl) (Nat.le_of_ble_eq_true rfl) (by decide) (cc_kindOf ha (by omega)) ?_
      refine mn_top (u := .int (nI (k))) (congrArg Value.int (by rw [if_pos ht8, ← e1]; exact h6)) ?_
      refine mm_istore (L' := [(4, .int (nI (k))), (3, .int (nI (0))), (0, .ref (o + 3)), (1, .ref (o + a)), (2, .int (nI (ch)))]) dX5_choose_51 (by decide) rfl ?_
      refine mm_iload_n dX5_choose_53 rfl 1 rfl ?_
      refine mn_if_eq (tgt := 64) dX5_choose_54 (by decide) (by omega) (fun c54 => ?_) (fun c54 => ?_)
      · refine mm_iload_n dX5_choose_64 rfl 4 rfl ?_
        refine mn_top (u := .int (nI (f))) (congrArg Value.int (by rw [e2])) ?_
        refine mm_istore (L' := [(5, .int (nI (f))), (4, .int (nI (k))), (3, .int (nI (0))), (0, .ref (o + 3)), (1, .ref (o + a)), (2, .int (nI (ch)))]) dX5_choose_65 (by decide) rfl ?_
        refine mm_aload_n dX5_choose_67 rfl 3 rfl ?_
        refine cm_getR (b := 4) dX5_choose_68 ha zr_X5_14 (by decide) rfl rfl rfl ?_
        refine mm_aload_n dX5_choose_71 rfl 3 rfl ?_
        refine cm_getI dX5_choose_72 ha zr_X5_109 (by decide) rfl rfl ?_
        refine mn_top (u := .int (nI (t))) (congrArg Value.int ((htk))) ?_
        refine cm_callVr (As := [.int (nI (t))]) (rest := []) (d2 := 0) dX5_choose_75 ha (by decide) rfl zz_clX0 zc_X5_177 zs_X0_restOf rfl rfl (Nat.le_of_ble_eq_true rfl) (Nat.le_of_ble_eq_true rfl) (by decide) (cc_restOf ha (by omega)) ?_
        refine mn_top (u := .int (nI (t1))) (congrArg Value.int (by rw [if_pos ht8]; exact h8)) ?_
        refine mm_istore (L' := [(6, .int (nI (t1))), (5, .int (nI (f))), (4, .int (nI (k))), (3, .int (nI (0))), (0, .ref (o + 3)), (1, .ref (o + a)), (2, .int (nI (ch)))]) dX5_choose_78 (by decide) rfl ?_
        refine mm_aload_n dX5_choose_80 rfl 4 rfl ?_
        refine cm_getR (b := 25) dX5_choose_81 ha zr_X5_28 (by decide) rfl rfl rfl ?_
        refine mm_iload dX5_choose_84 1 rfl ?_
        refine cm_callV (As := [.int (nI (f))]) (rest := []) (d2 := 0) dX5_choose_86 ha (by decide) rfl zz_clX1 zc_X5_212 zs_X1_tell rfl rfl (Nat.le_of_ble_eq_true rfl) (Nat.le_of_ble_eq_true rfl) (by decide) (cd_tell ha hdr.1.1 hfl hdr.1.2.1 (by omega)) (fun r h1 hq => ?_)
        obtain ⟨rfl, ha, hf'⟩ := hq
        have hf := hf.tr hf'
        obtain ⟨X2, ha, hrx, hdr, hlo⟩ := te_pack ha hdr
        have hrq := (hrx m).q (by omega) hva hrq
        have hm := (hlo 4 6 (by decide)).trans hm
        have hct1 := ct_x hct1 (fun b i h1 h2 h3 => hlo b i (by omega))
        refine mm_aload_n dX5_choose_89 rfl 4 rfl ?_
        refine mm_iload dX5_choose_90 1 rfl ?_
        refine mm_bipush (v := nI 11) dX5_choose_92 (by decide) ?_
        refine mn_icmp_gt (tgt := 111) dX5_choose_94 (by decide) (by omega) (by omega) (fun c94 => ?_) (fun c94 => ?_)
        · refine mm_aload_n dX5_choose_111 rfl 4 rfl ?_
          refine mm_aload_n dX5_choose_112 rfl 5 rfl ?_
          refine mm_iload dX5_choose_113 1 rfl ?_
          refine mm_iload dX5_choose_115 2 rfl ?_
          refine mm_iload dX5_choose_117 0 rfl ?_
          refine cm_callV (As := [.ref (o + a), .int (nI (f)), .int (nI (k)), .int (nI (t1))]) (rest := [.ref (o + 3)]) (d2 := 2) dX5_choose_119 ha (by decide) rfl zz_clX5 zc_X5_218 zs_X5_partsOfOthers rfl rfl (Nat.le_of_ble_eq_true rfl) (Nat.le_of_ble_eq_true rfl) (by decide) (cR_oth ha hva hrq hm hm8 hct1 (by omega) hdr hpv hk hh hg (by omega)) (fun r h1 hq => ?_)
          obtain ⟨X3, t', rfl, ha, hf', hrx', hm, htm', hct, hdr⟩ := hq
          have hf := hf.tr hf'
          refine cm_putI dX5_choose_122 ha hf zp_X5_109 (by decide) rfl rfl rfl rfl (fun h1 ha hf => ?_)
          exact mm_vret dX5_choose_125 rfl (⟨rfl, _, t', ha, hf, (((hrx m).tr hrx' (Nat.le_refl _) (by rw [List.length_append]; omega) (Nat.le_refl _)).tr (rx_task (m := m) (n := fs.length) (p := vs.length)) (Nat.le_refl _) (Nat.le_refl _) (Nat.le_refl _)), xu_s, (xu_a (by decide)).trans hm, htm', ct_x hct (fun b i h1 h2 h3 => xu_a (by omega)), dr_x hdr (fun b i z => xu_a (by omega))⟩)
        · refine mm_aload_n dX5_choose_97 rfl 4 rfl ?_
          refine mm_aload_n dX5_choose_98 rfl 5 rfl ?_
          refine mm_iload dX5_choose_99 1 rfl ?_
          refine mm_iload dX5_choose_101 2 rfl ?_
          refine mm_iload dX5_choose_103 0 rfl ?_
          refine cm_callV (As := [.ref (o + a), .int (nI (f)), .int (nI (k)), .int (nI (t1))]) (rest := [.ref (o + 3)]) (d2 := 2) dX5_choose_105 ha (by decide) rfl zz_clX5 zc_X5_215 zs_X5_partsOfUnit rfl rfl (Nat.le_of_ble_eq_true rfl) (Nat.le_of_ble_eq_true rfl) (by decide) (cR_unit ha hva hrq hm hm8 hct1 (by omega) hdr hpv hk hh hg (by omega)) (fun r h1 hq => ?_)
          obtain ⟨X3, t', rfl, ha, hf', hrx', hm, htm', hct, hdr⟩ := hq
          have hf := hf.tr hf'
          refine mm_goto (tgt := 122) dX5_choose_108 (by decide) ?_
          refine cm_putI dX5_choose_122 ha hf zp_X5_109 (by decide) rfl rfl rfl rfl (fun h1 ha hf => ?_)
          exact mm_vret dX5_choose_125 rfl (⟨rfl, _, t', ha, hf, (((hrx m).tr hrx' (Nat.le_refl _) (by rw [List.length_append]; omega) (Nat.le_refl _)).tr (rx_task (m := m) (n := fs.length) (p := vs.length)) (Nat.le_refl _) (Nat.le_refl _) (Nat.le_refl _)), xu_s, (xu_a (by decide)).trans hm, htm', ct_x hct (fun b i h1 h2 h3 => xu_a (by omega)), dr_x hdr (fun b i z => xu_a (by omega))⟩)
      · exact absurd rfl c54
    · exact absurd rfl c21
  · omega
