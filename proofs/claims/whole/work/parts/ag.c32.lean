/-! the class: a ligature is put down -/
set_option maxRecDepth 100000 in
set_option maxHeartbeats 4000000 in
theorem cM_ligB {l : Launch} {D : va_G} {aa : Nat → ClassId} {b0 : Nat} {h : mm_H} {o : Nat} {X : Nat → Nat → Int32} {Y : Nat → Nat → Int64} {rl : Option Nat} {s : aS} {ST : Nat → Bool} {n : Nat} {x : Int64} {sh m : Int32} (ha : cm_at o X Y rl h) (hW : WF s) (hI : CI s ST X Y rl) (hn : n < aNv s) (hb : ¬ (0 ≤ sh ∧ sh ≤ nI 15 ∧ nI 2 ≤ m ∧ m ≤ nI 8)) : mm_V (zz_K l D aa b0) 3 yX11_ligature cX11_ligature 9 (some .int) 0 [(0, .ref (o + 0)), (1, .int (nI (n))), (2, .int (sh)), (3, .int (m)), (4, .long (x))] [] h 0 0 (fun rv h' => h' = h ∧ rv = some (.int (-2))) := by
  have hf := cm_fr.rf (o := o) (h := h)
  have hn6 : n < 6 := by have := hW.1.1; omega
  have hva : vA (61 + 10 * n) := Or.inr ⟨n, hn6, rfl⟩
  have hvok := hW.2.1 n hn6
  have hrk := vok_rk hvok
  have hd0 := hvok.2.2.2.2.1
  have hsz24 : aSz s n ≤ 24 := hvok.1.2
  have hL := rD_len hrk
  obtain ⟨hvs, hvw, hr2, hvst, -⟩ := hI.2.1 n hn6
  have hvs := hvs hn
  refine mm_aload_n dX11_ligature_0 rfl 0 rfl ?_
  refine mm_iload_n dX11_ligature_1 rfl 1 rfl ?_
  refine cm_callVr (As := [.int (nI (n))]) (rest := []) (d2 := 0) dX11_ligature_2 ha (by decide) rfl zz_clX11 zc_X11_55 zs_X11_voiceAt rfl rfl (Nat.le_of_ble_eq_true rfl) (Nat.le_of_ble_eq_true rfl) (by decide) (cM_voiceAt ha hI.1.1 hW.1.1 hn) ?_
  refine mm_astore (L' := [(6, .ref (o + (61 + 10 * n))), (0, .ref (o + 0)), (1, .int (nI (n))), (2, .int (sh)), (3, .int (m)), (4, .long (x))]) dX11_ligature_5 (by decide) rfl ?_
  refine mm_aload dX11_ligature_7 0 rfl ?_
  refine mm_ifnull dX11_ligature_9 ?_
  refine mm_iload_n dX11_ligature_12 rfl 3 rfl ?_
  refine mm_if_lt (tgt := 42) dX11_ligature_13 (by decide) (fun c13 => ?_) (fun c13 => ?_)
  · refine mm_bipush (v := (-2)) dX11_ligature_42 (by decide) ?_
    exact mm_iret dX11_ligature_44 rfl (⟨rfl, rfl⟩)
  · refine mm_iload_n dX11_ligature_16 rfl 3 rfl ?_
    refine mm_bipush (v := nI 15) dX11_ligature_17 (by decide) ?_
    refine mm_icmp_gt (tgt := 42) dX11_ligature_19 (by decide) (fun c19 => ?_) (fun c19 => ?_)
    · refine mm_bipush (v := (-2)) dX11_ligature_42 (by decide) ?_
      exact mm_iret dX11_ligature_44 rfl (⟨rfl, rfl⟩)
    · refine mm_iload_n dX11_ligature_22 rfl 4 rfl ?_
      refine mm_iconst (v := nI 2) dX11_ligature_23 (by decide) ?_
      refine mm_icmp_lt (tgt := 42) dX11_ligature_24 (by decide) (fun c24 => ?_) (fun c24 => ?_)
      · refine mm_bipush (v := (-2)) dX11_ligature_42 (by decide) ?_
        exact mm_iret dX11_ligature_44 rfl (⟨rfl, rfl⟩)
      · refine mm_iload_n dX11_ligature_27 rfl 4 rfl ?_
        refine mm_bipush (v := nI 8) dX11_ligature_28 (by decide) ?_
        refine mm_icmp_gt (tgt := 42) dX11_ligature_30 (by decide) (fun c30 => ?_) (fun c30 => ?_)
        · refine mm_bipush (v := (-2)) dX11_ligature_42 (by decide) ?_
          exact mm_iret dX11_ligature_44 rfl (⟨rfl, rfl⟩)
        · exact False.elim (hb ⟨i32_nlt c13, i32_nlt c19, i32_nlt c24, i32_nlt c30⟩)
set_option maxRecDepth 100000 in
set_option maxHeartbeats 4000000 in
theorem cM_ligP {l : Launch} {D : va_G} {aa : Nat → ClassId} {b0 : Nat} {h : mm_H} {o : Nat} {X : Nat → Nat → Int32} {Y : Nat → Nat → Int64} {rl : Option Nat} {s : aS} {ST : Nat → Bool} {n : Nat} {x : Int64} {sh m : Nat} (ha : cm_at o X Y rl h) (hW : WF s) (hI : CI s ST X Y rl) (hn : n < aNv s) (hsh : sh < 16) (hm : 2 ≤ m ∧ m ≤ 8) (hP : ¬ lgP x m) : mm_V (zz_K l D aa b0) 3 yX11_ligature cX11_ligature 9 (some .int) 0 [(0, .ref (o + 0)), (1, .int (nI (n))), (2, .int (nI (sh))), (3, .int (nI (m))), (4, .long (x))] [] h 0 0 (fun rv h' => h' = h ∧ rv = some (.int (-2))) := by
  have hf := cm_fr.rf (o := o) (h := h)
  have hn6 : n < 6 := by have := hW.1.1; omega
  have hva : vA (61 + 10 * n) := Or.inr ⟨n, hn6, rfl⟩
  have hvok := hW.2.1 n hn6
  have hrk := vok_rk hvok
  have hd0 := hvok.2.2.2.2.1
  have hsz24 : aSz s n ≤ 24 := hvok.1.2
  have hL := rD_len hrk
  obtain ⟨hvs, hvw, hr2, hvst, -⟩ := hI.2.1 n hn6
  have hvs := hvs hn
  refine mm_aload_n dX11_ligature_0 rfl 0 rfl ?_
  refine mm_iload_n dX11_ligature_1 rfl 1 rfl ?_
  refine cm_callVr (As := [.int (nI (n))]) (rest := []) (d2 := 0) dX11_ligature_2 ha (by decide) rfl zz_clX11 zc_X11_55 zs_X11_voiceAt rfl rfl (Nat.le_of_ble_eq_true rfl) (Nat.le_of_ble_eq_true rfl) (by decide) (cM_voiceAt ha hI.1.1 hW.1.1 hn) ?_
  refine mm_astore (L' := [(6, .ref (o + (61 + 10 * n))), (0, .ref (o + 0)), (1, .int (nI (n))), (2, .int (nI (sh))), (3, .int (nI (m))), (4, .long (x))]) dX11_ligature_5 (by decide) rfl ?_
  refine mm_aload dX11_ligature_7 0 rfl ?_
  refine mm_ifnull dX11_ligature_9 ?_
  refine mm_iload_n dX11_ligature_12 rfl 3 rfl ?_
  refine mn_if_lt (tgt := 42) dX11_ligature_13 (by decide) (by omega) ?_
  refine mm_iload_n dX11_ligature_16 rfl 3 rfl ?_
  refine mm_bipush (v := nI 15) dX11_ligature_17 (by decide) ?_
  refine mn_icmp_gt (tgt := 42) dX11_ligature_19 (by decide) (by omega) (by omega) (fun c19 => ?_) (fun c19 => ?_)
  · omega
  · refine mm_iload_n dX11_ligature_22 rfl 4 rfl ?_
    refine mm_iconst (v := nI 2) dX11_ligature_23 (by decide) ?_
    refine mn_icmp_lt (tgt := 42) dX11_ligature_24 (by decide) (by omega) (by omega) (fun c24 => ?_) (fun c24 => ?_)
    · omega
    · refine mm_iload_n dX11_ligature_27 rfl 4 rfl ?_
      refine mm_bipush (v := nI 8) dX11_ligature_28 (by decide) ?_
      refine mn_icmp_gt (tgt := 42) dX11_ligature_30 (by decide) (by omega) (by omega) (fun c30 => ?_) (fun c30 => ?_)
      · omega
      · refine mm_iload_n dX11_ligature_33 rfl 4 rfl ?_
        refine mm_lload dX11_ligature_34 5 rfl ?_
        refine rm_callSr (As := [.int (nI (m)), .long (x)]) (rest := []) (d2 := 1) dX11_ligature_36 zc_X11_83 rfl rfl (Nat.le_of_ble_eq_true rfl) (Nat.le_of_ble_eq_true rfl) (by decide) (cl_hasPN hm.2 hP) ?_
        refine mn_if_ne (tgt := 45) dX11_ligature_39 (by decide) (by omega) (fun c39 => ?_) (fun c39 => ?_)
        · omega
        · refine mm_bipush (v := (-2)) dX11_ligature_42 (by decide) ?_
          exact mm_iret dX11_ligature_44 rfl (⟨rfl, rfl⟩)
set_option maxRecDepth 100000 in
set_option maxHeartbeats 4000000 in
theorem cM_ligS {l : Launch} {D : va_G} {aa : Nat → ClassId} {b0 : Nat} {h : mm_H} {o : Nat} {X : Nat → Nat → Int32} {Y : Nat → Nat → Int64} {rl : Option Nat} {s : aS} {ST : Nat → Bool} {n : Nat} {x : Int64} {sh m : Nat} (ha : cm_at o X Y rl h) (hW : WF s) (hI : CI s ST X Y rl) (hn : n < aNv s) (hsh : sh < 16) (hm : 2 ≤ m ∧ m ≤ 8) (hP : lgP x m) (hS : ¬ lgS sh m x) : mm_V (zz_K l D aa b0) 3 yX11_ligature cX11_ligature 9 (some .int) 0 [(0, .ref (o + 0)), (1, .int (nI (n))), (2, .int (nI (sh))), (3, .int (nI (m))), (4, .long (x))] [] h 0 0 (fun rv h' => h' = h ∧ rv = some (.int (-5))) := by
  have hf := cm_fr.rf (o := o) (h := h)
  have hn6 : n < 6 := by have := hW.1.1; omega
  have hva : vA (61 + 10 * n) := Or.inr ⟨n, hn6, rfl⟩
  have hvok := hW.2.1 n hn6
  have hrk := vok_rk hvok
  have hd0 := hvok.2.2.2.2.1
  have hsz24 : aSz s n ≤ 24 := hvok.1.2
  have hL := rD_len hrk
  obtain ⟨hvs, hvw, hr2, hvst, -⟩ := hI.2.1 n hn6
  have hvs := hvs hn
  refine mm_aload_n dX11_ligature_0 rfl 0 rfl ?_
  refine mm_iload_n dX11_ligature_1 rfl 1 rfl ?_
  refine cm_callVr (As := [.int (nI (n))]) (rest := []) (d2 := 0) dX11_ligature_2 ha (by decide) rfl zz_clX11 zc_X11_55 zs_X11_voiceAt rfl rfl (Nat.le_of_ble_eq_true rfl) (Nat.le_of_ble_eq_true rfl) (by decide) (cM_voiceAt ha hI.1.1 hW.1.1 hn) ?_
  refine mm_astore (L' := [(6, .ref (o + (61 + 10 * n))), (0, .ref (o + 0)), (1, .int (nI (n))), (2, .int (nI (sh))), (3, .int (nI (m))), (4, .long (x))]) dX11_ligature_5 (by decide) rfl ?_
  refine mm_aload dX11_ligature_7 0 rfl ?_
  refine mm_ifnull dX11_ligature_9 ?_
  refine mm_iload_n dX11_ligature_12 rfl 3 rfl ?_
  refine mn_if_lt (tgt := 42) dX11_ligature_13 (by decide) (by omega) ?_
  refine mm_iload_n dX11_ligature_16 rfl 3 rfl ?_
  refine mm_bipush (v := nI 15) dX11_ligature_17 (by decide) ?_
  refine mn_icmp_gt (tgt := 42) dX11_ligature_19 (by decide) (by omega) (by omega) (fun c19 => ?_) (fun c19 => ?_)
  · omega
  · refine mm_iload_n dX11_ligature_22 rfl 4 rfl ?_
    refine mm_iconst (v := nI 2) dX11_ligature_23 (by decide) ?_
    refine mn_icmp_lt (tgt := 42) dX11_ligature_24 (by decide) (by omega) (by omega) (fun c24 => ?_) (fun c24 => ?_)
    · omega
    · refine mm_iload_n dX11_ligature_27 rfl 4 rfl ?_
      refine mm_bipush (v := nI 8) dX11_ligature_28 (by decide) ?_
      refine mn_icmp_gt (tgt := 42) dX11_ligature_30 (by decide) (by omega) (by omega) (fun c30 => ?_) (fun c30 => ?_)
      · omega
      · refine mm_iload_n dX11_ligature_33 rfl 4 rfl ?_
        refine mm_lload dX11_ligature_34 5 rfl ?_
        refine rm_callSr (As := [.int (nI (m)), .long (x)]) (rest := []) (d2 := 1) dX11_ligature_36 zc_X11_83 rfl rfl (Nat.le_of_ble_eq_true rfl) (Nat.le_of_ble_eq_true rfl) (by decide) (cl_hasP hm.2 hP) ?_
        refine mn_if_ne (tgt := 45) dX11_ligature_39 (by decide) (by omega) (fun c39 => ?_) (fun c39 => ?_)
        · refine mm_iload_n dX11_ligature_45 rfl 3 rfl ?_
          refine mm_iload_n dX11_ligature_46 rfl 4 rfl ?_
          refine mm_lload dX11_ligature_47 5 rfl ?_
          refine rm_callSr (As := [.int (nI (sh)), .int (nI (m)), .long (x)]) (rest := []) (d2 := 2) dX11_ligature_49 zc_X11_87 rfl rfl (Nat.le_of_ble_eq_true rfl) (Nat.le_of_ble_eq_true rfl) (by decide) (cl_shapeN hm hsh hS) ?_
          refine mn_if_ne (tgt := 58) dX11_ligature_52 (by decide) (by omega) (fun c52 => ?_) (fun c52 => ?_)
          · omega
          · refine mm_bipush (v := (-5)) dX11_ligature_55 (by decide) ?_
            exact mm_iret dX11_ligature_57 rfl (⟨rfl, rfl⟩)
        · exact absurd c39 (by decide)
set_option maxRecDepth 100000 in
set_option maxHeartbeats 4000000 in
theorem cM_ligF {l : Launch} {D : va_G} {aa : Nat → ClassId} {b0 : Nat} {h : mm_H} {o : Nat} {X : Nat → Nat → Int32} {Y : Nat → Nat → Int64} {rl : Option Nat} {s : aS} {ST : Nat → Bool} {n : Nat} {x : Int64} {sh m : Nat} (ha : cm_at o X Y rl h) (hW : WF s) (hI : CI s ST X Y rl) (hn : n < aNv s) (hsh : sh < 16) (hm : 2 ≤ m ∧ m ≤ 8) (hP : lgP x m) (hS : lgS sh m x) (hfull : 24 < aSz s n + m) : mm_V (zz_K l D aa b0) 3 yX11_ligature cX11_ligature 9 (some .int) 0 [(0, .ref (o + 0)), (1, .int (nI (n))), (2, .int (nI (sh))), (3, .int (nI (m))), (4, .long (x))] [] h 0 0 (fun rv h' => h' = h ∧ rv = some (.int (-3))) := by
  have hf := cm_fr.rf (o := o) (h := h)
  have hn6 : n < 6 := by have := hW.1.1; omega
  have hva : vA (61 + 10 * n) := Or.inr ⟨n, hn6, rfl⟩
  have hvok := hW.2.1 n hn6
  have hrk := vok_rk hvok
  have hd0 := hvok.2.2.2.2.1
  have hsz24 : aSz s n ≤ 24 := hvok.1.2
  have hL := rD_len hrk
  obtain ⟨hvs, hvw, hr2, hvst, -⟩ := hI.2.1 n hn6
  have hvs := hvs hn
  refine mm_aload_n dX11_ligature_0 rfl 0 rfl ?_
  refine mm_iload_n dX11_ligature_1 rfl 1 rfl ?_
  refine cm_callVr (As := [.int (nI (n))]) (rest := []) (d2 := 0) dX11_ligature_2 ha (by decide) rfl zz_clX11 zc_X11_55 zs_X11_voiceAt rfl rfl (Nat.le_of_ble_eq_true rfl) (Nat.le_of_ble_eq_true rfl) (by decide) (cM_voiceAt ha hI.1.1 hW.1.1 hn) ?_
  refine mm_astore (L' := [(6, .ref (o + (61 + 10 * n))), (0, .ref (o + 0)), (1, .int (nI (n))), (2, .int (nI (sh))), (3, .int (nI (m))), (4, .long (x))]) dX11_ligature_5 (by decide) rfl ?_
  refine mm_aload dX11_ligature_7 0 rfl ?_
  refine mm_ifnull dX11_ligature_9 ?_
  refine mm_iload_n dX11_ligature_12 rfl 3 rfl ?_
  refine mn_if_lt (tgt := 42) dX11_ligature_13 (by decide) (by omega) ?_
  refine mm_iload_n dX11_ligature_16 rfl 3 rfl ?_
  refine mm_bipush (v := nI 15) dX11_ligature_17 (by decide) ?_
  refine mn_icmp_gt (tgt := 42) dX11_ligature_19 (by decide) (by omega) (by omega) (fun c19 => ?_) (fun c19 => ?_)
  · omega
  · refine mm_iload_n dX11_ligature_22 rfl 4 rfl ?_
    refine mm_iconst (v := nI 2) dX11_ligature_23 (by decide) ?_
    refine mn_icmp_lt (tgt := 42) dX11_ligature_24 (by decide) (by omega) (by omega) (fun c24 => ?_) (fun c24 => ?_)
    · omega
    · refine mm_iload_n dX11_ligature_27 rfl 4 rfl ?_
      refine mm_bipush (v := nI 8) dX11_ligature_28 (by decide) ?_
      refine mn_icmp_gt (tgt := 42) dX11_ligature_30 (by decide) (by omega) (by omega) (fun c30 => ?_) (fun c30 => ?_)
      · omega
      · refine mm_iload_n dX11_ligature_33 rfl 4 rfl ?_
        refine mm_lload dX11_ligature_34 5 rfl ?_
        refine rm_callSr (As := [.int (nI (m)), .long (x)]) (rest := []) (d2 := 1) dX11_ligature_36 zc_X11_83 rfl rfl (Nat.le_of_ble_eq_true rfl) (Nat.le_of_ble_eq_true rfl) (by decide) (cl_hasP hm.2 hP) ?_
        refine mn_if_ne (tgt := 45) dX11_ligature_39 (by decide) (by omega) (fun c39 => ?_) (fun c39 => ?_)
        · refine mm_iload_n dX11_ligature_45 rfl 3 rfl ?_
          refine mm_iload_n dX11_ligature_46 rfl 4 rfl ?_
          refine mm_lload dX11_ligature_47 5 rfl ?_
          refine rm_callSr (As := [.int (nI (sh)), .int (nI (m)), .long (x)]) (rest := []) (d2 := 2) dX11_ligature_49 zc_X11_87 rfl rfl (Nat.le_of_ble_eq_true rfl) (Nat.le_of_ble_eq_true rfl) (by decide) (cl_shape hm hsh hS) ?_
          refine mn_if_ne (tgt := 58) dX11_ligature_52 (by decide) (by omega) (fun c52 => ?_) (fun c52 => ?_)
          · refine mm_aload dX11_ligature_58 0 rfl ?_
            refine cm_getR (b := 61 + 10 * n + 3) dX11_ligature_60 ha zr_X11_70 (vA_lt hva 0 (by decide)) (vA_0 hva) rfl rfl ?_
            refine mm_iload_n dX11_ligature_63 rfl 4 rfl ?_
            refine cm_callVr (As := [.int (nI (m))]) (rest := []) (d2 := 0) dX11_ligature_64 ha (vA_lt hva 3 (by decide)) (vA_3 hva) zz_clX6 zc_X11_91 zs_X6_hasRoomFor rfl rfl (Nat.le_of_ble_eq_true rfl) (Nat.le_of_ble_eq_true rfl) (by decide) (cr_hasRoomFor ha (vr_A hva) hvw.1.1 hsz24 (by omega)) ?_
            refine mn_ifB_ne (tgt := 73) dX11_ligature_67 (by decide) (fun c67 => ?_) (fun c67 => ?_)
            · exact absurd (show aSz s n + m ≤ 24 from of_decide_eq_true c67) (by omega)
            · refine mm_bipush (v := (-3)) dX11_ligature_70 (by decide) ?_
              exact mm_iret dX11_ligature_72 rfl (⟨rfl, rfl⟩)
          · exact absurd c52 (by decide)
        · exact absurd c39 (by decide)
set_option maxRecDepth 100000 in
set_option maxHeartbeats 4000000 in
theorem cM_lig {l : Launch} {D : va_G} {aa : Nat → ClassId} {b0 : Nat} {h : mm_H} {o : Nat} {X : Nat → Nat → Int32} {Y : Nat → Nat → Int64} {rl : Option Nat} {s : aS} {ST : Nat → Bool} {n : Nat} {x : Int64} {sh m : Nat} (ha : cm_at o X Y rl h) (hW : WF s) (hI : CI s ST X Y rl) (hn : n < aNv s) (hsh : sh < 16) (hm : 2 ≤ m ∧ m ≤ 8) (hP : lgP x m) (hS : lgS sh m x) (hroom : aSz s n + m ≤ 24) : mm_V (zz_K l D aa b0) 3 yX11_ligature cX11_ligature 9 (some .int) 0 [(0, .ref (o + 0)), (1, .int (nI (n))), (2, .int (nI (sh))), (3, .int (nI (m))), (4, .long (x))] [] h 0 0 (fun rv h' => rv = some (.int (nI (aSz s n))) ∧ ∃ (ST' : Nat → Bool) (X' : Nat → Nat → Int32), cm_at o X' Y rl h' ∧ cm_fr o h h' ∧ CI (aLig s n sh m x m) ST' X' Y rl) := by
  have hf := cm_fr.rf (o := o) (h := h)
  have hn6 : n < 6 := by have := hW.1.1; omega
  have hva : vA (61 + 10 * n) := Or.inr ⟨n, hn6, rfl⟩
  have hvok := hW.2.1 n hn6
  have hrk := vok_rk hvok
  have hd0 := hvok.2.2.2.2.1
  have hsz24 : aSz s n ≤ 24 := hvok.1.2
  have hL := rD_len hrk
  obtain ⟨hvs, hvw, hr2, hvst, -⟩ := hI.2.1 n hn6
  have hvs := hvs hn
  refine mm_aload_n dX11_ligature_0 rfl 0 rfl ?_
  refine mm_iload_n dX11_ligature_1 rfl 1 rfl ?_
  refine cm_callVr (As := [.int (nI (n))]) (rest := []) (d2 := 0) dX11_ligature_2 ha (by decide) rfl zz_clX11 zc_X11_55 zs_X11_voiceAt rfl rfl (Nat.le_of_ble_eq_true rfl) (Nat.le_of_ble_eq_true rfl) (by decide) (cM_voiceAt ha hI.1.1 hW.1.1 hn) ?_
  refine mm_astore (L' := [(6, .ref (o + (61 + 10 * n))), (0, .ref (o + 0)), (1, .int (nI (n))), (2, .int (nI (sh))), (3, .int (nI (m))), (4, .long (x))]) dX11_ligature_5 (by decide) rfl ?_
  refine mm_aload dX11_ligature_7 0 rfl ?_
  refine mm_ifnull dX11_ligature_9 ?_
  refine mm_iload_n dX11_ligature_12 rfl 3 rfl ?_
  refine mn_if_lt (tgt := 42) dX11_ligature_13 (by decide) (by omega) ?_
  refine mm_iload_n dX11_ligature_16 rfl 3 rfl ?_
  refine mm_bipush (v := nI 15) dX11_ligature_17 (by decide) ?_
  refine mn_icmp_gt (tgt := 42) dX11_ligature_19 (by decide) (by omega) (by omega) (fun c19 => ?_) (fun c19 => ?_)
  · omega
  · refine mm_iload_n dX11_ligature_22 rfl 4 rfl ?_
    refine mm_iconst (v := nI 2) dX11_ligature_23 (by decide) ?_
    refine mn_icmp_lt (tgt := 42) dX11_ligature_24 (by decide) (by omega) (by omega) (fun c24 => ?_) (fun c24 => ?_)
    · omega
    · refine mm_iload_n dX11_ligature_27 rfl 4 rfl ?_
      refine mm_bipush (v := nI 8) dX11_ligature_28 (by decide) ?_
      refine mn_icmp_gt (tgt := 42) dX11_ligature_30 (by decide) (by omega) (by omega) (fun c30 => ?_) (fun c30 => ?_)
      · omega
      · refine mm_iload_n dX11_ligature_33 rfl 4 rfl ?_
        refine mm_lload dX11_ligature_34 5 rfl ?_
        refine rm_callSr (As := [.int (nI (m)), .long (x)]) (rest := []) (d2 := 1) dX11_ligature_36 zc_X11_83 rfl rfl (Nat.le_of_ble_eq_true rfl) (Nat.le_of_ble_eq_true rfl) (by decide) (cl_hasP hm.2 hP) ?_
        refine mn_if_ne (tgt := 45) dX11_ligature_39 (by decide) (by omega) (fun c39 => ?_) (fun c39 => ?_)
        · refine mm_iload_n dX11_ligature_45 rfl 3 rfl ?_
          refine mm_iload_n dX11_ligature_46 rfl 4 rfl ?_
          refine mm_lload dX11_ligature_47 5 rfl ?_
          refine rm_callSr (As := [.int (nI (sh)), .int (nI (m)), .long (x)]) (rest := []) (d2 := 2) dX11_ligature_49 zc_X11_87 rfl rfl (Nat.le_of_ble_eq_true rfl) (Nat.le_of_ble_eq_true rfl) (by decide) (cl_shape hm hsh hS) ?_
          refine mn_if_ne (tgt := 58) dX11_ligature_52 (by decide) (by omega) (fun c52 => ?_) (fun c52 => ?_)
          · refine mm_aload dX11_ligature_58 0 rfl ?_
            refine cm_getR (b := 61 + 10 * n + 3) dX11_ligature_60 ha zr_X11_70 (vA_lt hva 0 (by decide)) (vA_0 hva) rfl rfl ?_
            refine mm_iload_n dX11_ligature_63 rfl 4 rfl ?_
            refine cm_callVr (As := [.int (nI (m))]) (rest := []) (d2 := 0) dX11_ligature_64 ha (vA_lt hva 3 (by decide)) (vA_3 hva) zz_clX6 zc_X11_91 zs_X6_hasRoomFor rfl rfl (Nat.le_of_ble_eq_true rfl) (Nat.le_of_ble_eq_true rfl) (by decide) (cr_hasRoomFor ha (vr_A hva) hvw.1.1 hsz24 (by omega)) ?_
            refine mn_ifB_ne (tgt := 73) dX11_ligature_67 (by decide) (fun c67 => ?_) (fun c67 => ?_)
            · refine mm_aload dX11_ligature_73 0 rfl ?_
              refine cm_getR (b := 61 + 10 * n + 3) dX11_ligature_75 ha zr_X11_70 (vA_lt hva 0 (by decide)) (vA_0 hva) rfl rfl ?_
              refine cm_getI dX11_ligature_78 ha zr_X11_74 (vA_lt hva 3 (by decide)) (vA_3 hva) rfl ?_
              refine mn_top (u := .int (nI (aSz s n))) (congrArg Value.int ((hvw.1.1))) ?_
              refine mm_istore (L' := [(7, .int (nI (aSz s n))), (6, .ref (o + (61 + 10 * n))), (0, .ref (o + 0)), (1, .int (nI (n))), (2, .int (nI (sh))), (3, .int (nI (m))), (4, .long (x))]) dX11_ligature_81 (by decide) rfl ?_
              refine mm_iconst (v := nI 0) dX11_ligature_83 (by decide) ?_
              refine mm_istore (L' := [(8, .int (nI (0))), (7, .int (nI (aSz s n))), (6, .ref (o + (61 + 10 * n))), (0, .ref (o + 0)), (1, .int (nI (n))), (2, .int (nI (sh))), (3, .int (nI (m))), (4, .long (x))]) dX11_ligature_84 (by decide) rfl ?_
              refine mn_sub [0, 1, 2, 3, 4, 5, 6, 7] rfl ?_
              suffices lp : ∀ (q k : Nat) (ST1 : Nat → Bool) (X1 : Nat → Nat → Int32) (h1 : mm_H), k + q = m → CI (aLig s n sh m x k) ST1 X1 Y rl → cm_at o X1 Y rl h1 → cm_fr o h h1 → mm_V (zz_K l D aa b0) 3 yX11_ligature cX11_ligature 9 (some .int) 86 [(8, .int (nI (k))), (7, .int (nI (aSz s n))), (6, .ref (o + (61 + 10 * n))), (0, .ref (o + 0)), (1, .int (nI (n))), (2, .int (nI (sh))), (3, .int (nI (m))), (4, .long (x))] [] h1 0 0 (fun rv h' => rv = some (.int (nI (aSz s n))) ∧ ∃ (ST' : Nat → Bool) (X' : Nat → Nat → Int32), cm_at o X' Y rl h' ∧ cm_fr o h h' ∧ CI (aLig s n sh m x m) ST' X' Y rl) from lp m 0 ST X h (by omega) hI ha hf
              intro q
              induction q with
              | zero =>
                intro k ST1 X1 h1 hk hI1 ha hf
                refine mm_iload dX11_ligature_86 0 rfl ?_
                refine mm_iload_n dX11_ligature_88 rfl 6 rfl ?_
                refine mn_icmp_ge (tgt := 122) dX11_ligature_89 (by decide) (by omega) (by omega) (fun c89 => ?_) (fun c89 => ?_)
                · have e : k = m := by omega
                  subst e
                  refine mm_iload dX11_ligature_122 1 rfl ?_
                  exact mm_iret dX11_ligature_124 rfl (⟨rfl, ST1, X1, ha, hf, hI1⟩)
                · omega
              | succ q ih =>
                intro k ST1 X1 h1 hk hI1 ha hf
                refine mm_iload dX11_ligature_86 0 rfl ?_
                refine mm_iload_n dX11_ligature_88 rfl 6 rfl ?_
                refine mn_icmp_ge (tgt := 122) dX11_ligature_89 (by decide) (by omega) (by omega) (fun c89 => ?_) (fun c89 => ?_)
                · omega
                · obtain ⟨f1, f2⟩ := aLig_f (s := s) (v := n) (sh := sh) (n := m) (x := x) k
                  have hWk := aLig_W (sh := sh) hW hn hP hroom k (by omega)
                  have hnk : n < aNv (aLig s n sh m x k) := by rw [f1]; exact hn
                  have hrk2 : aSz (aLig s n sh m x k) n < 24 := by rw [f2]; omega
                  obtain ⟨-, hvw1, -, -, -⟩ := hI1.2.1 n hn6
                  refine mm_aload dX11_ligature_92 2 rfl ?_
                  refine mm_iconst (v := nI 1) dX11_ligature_94 (by decide) ?_
                  refine mm_iload_n dX11_ligature_95 rfl 5 rfl ?_
                  refine mm_iload_n dX11_ligature_96 rfl 6 rfl ?_
                  refine mm_lload dX11_ligature_97 7 rfl ?_
                  refine mm_iload dX11_ligature_99 0 rfl ?_
                  refine rm_callSr (As := [.int (nI (sh)), .int (nI (m)), .long (x), .int (nI (k))]) (rest := [.int (nI (1)), .ref (o + (61 + 10 * n))]) (d2 := 2) dX11_ligature_101 zc_X11_94 rfl rfl (Nat.le_of_ble_eq_true rfl) (Nat.le_of_ble_eq_true rfl) (by decide) (cl_kind hm hsh (by omega)) ?_
                  refine mm_lload dX11_ligature_104 7 rfl ?_
                  refine mm_iload dX11_ligature_106 0 rfl ?_
                  refine rm_callSr (As := [.long (x), .int (nI (k))]) (rest := [.int (nI (lgK sh m x k)), .int (nI (1)), .ref (o + (61 + 10 * n))]) (d2 := 0) dX11_ligature_108 zc_X11_98 rfl rfl (Nat.le_of_ble_eq_true rfl) (Nat.le_of_ble_eq_true rfl) (by decide) (cl_pitchOf (x := x) (k := k)) ?_
                  refine mm_iconst (v := nI 0) dX11_ligature_111 (by decide) ?_
                  refine mn_top (u := .int (nI (Bool.toNat false))) (congrArg Value.int (rfl)) ?_
                  refine cm_callV (As := [.int (nI (1)), .int (nI (lgK sh m x k)), .int (ptc x k), .int (nI (Bool.toNat (false)))]) (rest := []) (d2 := 1) dX11_ligature_112 ha (vA_lt hva 0 (by decide)) (vA_0 hva) zz_clX9 zc_X11_66 zs_X9_append rfl rfl (Nat.le_of_ble_eq_true rfl) (Nat.le_of_ble_eq_true rfl) (by decide) (cv_append (a := 61 + 10 * n) ha hva hvw1.1.1 hrk2) (fun r h1 hq => ?_)
                  obtain ⟨rfl, ha, hf'⟩ := hq
                  have hf := hf.tr hf'
                  have hci := CI_put (so := 1) (ki := lgK sh m x k) (pi := (ptc x k).toInt) (co := false) (X' := (xu (xu (xu (xu (xu (xu (xu (xu (xu X1 (61 + 10 * n + 3 + 1) (aSz (aLig s n sh m x k) n) (nI 1)) (61 + 10 * n + 3 + 2) (aSz (aLig s n sh m x k) n) (nI (lgK sh m x k))) (61 + 10 * n + 3 + 3) (aSz (aLig s n sh m x k) n) (ptc x k)) (61 + 10 * n + 3 + 4) (aSz (aLig s n sh m x k) n) (nI (Bool.toNat false))) (61 + 10 * n + 3 + 5) (aSz (aLig s n sh m x k) n) (X1 (61 + 10 * n + 3) 7)) (61 + 10 * n + 3 + 6) (aSz (aLig s n sh m x k) n) (X1 (61 + 10 * n + 3) 8)) (61 + 10 * n + 3) 6 (nI (aSz (aLig s n sh m x k) n + 1))) (61 + 10 * n) 8 (nI 1)) (61 + 10 * n) 7 (nI 0))) hWk hI1 hnk hrk2 ⟨by decide, by decide⟩ lgK_lt (fun z => absurd rfl z)
                    (by rw [xu_a (by omega), xu_a (by omega), xu_a (by omega), xu_a (by omega), xu_a (by omega), xu_a (by omega), xu_a (by omega), xu_a (by omega), xu_s])
                    (by rw [xu_a (by omega), xu_a (by omega), xu_a (by omega), xu_a (by omega), xu_a (by omega), xu_a (by omega), xu_a (by omega), xu_s]; rfl)
                    (by rw [xu_a (by omega), xu_a (by omega), xu_a (by omega), xu_a (by omega), xu_a (by omega), xu_a (by omega), xu_s]; exact (i32_pi (hP k (by omega))).1)
                    (by rw [xu_a (by omega), xu_a (by omega), xu_a (by omega), xu_a (by omega), xu_a (by omega), xu_s])
                    (by rw [xu_a (by omega), xu_a (by omega), xu_a (by omega), xu_a (by omega), xu_s])
                    (by rw [xu_a (by omega), xu_a (by omega), xu_a (by omega), xu_s])
                    (by rw [xu_a (by omega), xu_a (by omega), xu_s])
                    (by rw [xu_i (by decide), xu_s])
                    xu_s
                    (fun b i n1 n2 n3 => by rw [xu_z (by omega), xu_z (by omega), xu_z (by omega), xu_z (by omega), xu_z (by omega), xu_z (by omega), xu_z (by omega), xu_z (by omega), xu_z (by omega)])
                  refine mm_pop dX11_ligature_115 rfl ?_
                  refine mn_iinc (m := 1) (L' := [(8, .int (nI (k + 1))), (7, .int (nI (aSz s n))), (6, .ref (o + (61 + 10 * n))), (0, .ref (o + 0)), (1, .int (nI (n))), (2, .int (nI (sh))), (3, .int (nI (m))), (4, .long (x))]) dX11_ligature_116 (by decide) 0 rfl (by decide) rfl ?_
                  refine mm_goto (tgt := 86) dX11_ligature_119 (by decide) ?_
                  refine mn_sub [0, 1, 2, 3, 4, 5, 6, 7] rfl ?_
                  exact ih (k + 1) _ _ _ (by omega) hci ha hf
            · exact absurd hroom (of_decide_eq_false c67)
          · exact absurd c52 (by decide)
        · exact absurd c39 (by decide)
