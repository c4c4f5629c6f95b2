/-! the class: voices, symbols put down -/
set_option maxRecDepth 100000 in
set_option maxHeartbeats 4000000 in
theorem cM_voiceB {l : Launch} {D : va_G} {aa : Nat → ClassId} {b0 : Nat} {h : mm_H} {o : Nat} {X : Nat → Nat → Int32} {Y : Nat → Nat → Int64} {rl : Option Nat} {s : aS} {ST : Nat → Bool} {g : Int32} (ha : cm_at o X Y rl h) (hW : WF s) (hI : CI s ST X Y rl) (hg : g < 0 ∨ nI 16 ≤ g) : mm_V (zz_K l D aa b0) 2 yX11_voice cX11_voice 3 (some .int) 0 [(0, .ref (o + 0)), (1, .int (g))] [] h 0 0 (fun rv h' => h' = h ∧ rv = some (.int (-2))) := by
  have hf := cm_fr.rf (o := o) (h := h)
  refine mm_iload_n dX11_voice_0 rfl 1 rfl ?_
  refine mm_if_lt (tgt := 10) dX11_voice_1 (by decide) (fun c1 => ?_) (fun c1 => ?_)
  · refine mm_bipush (v := (-2)) dX11_voice_10 (by decide) ?_
    exact mm_iret dX11_voice_12 rfl (⟨rfl, rfl⟩)
  · refine mm_iload_n dX11_voice_4 rfl 1 rfl ?_
    refine mm_bipush (v := nI 16) dX11_voice_5 (by decide) ?_
    refine mm_icmp_lt (tgt := 13) dX11_voice_7 (by decide) (fun c7 => ?_) (fun c7 => ?_)
    · exact hg.elim (fun z => absurd z c1) (fun z => absurd z (i32_nle c7))
    · refine mm_bipush (v := (-2)) dX11_voice_10 (by decide) ?_
      exact mm_iret dX11_voice_12 rfl (⟨rfl, rfl⟩)
set_option maxRecDepth 100000 in
set_option maxHeartbeats 4000000 in
theorem cM_voiceF {l : Launch} {D : va_G} {aa : Nat → ClassId} {b0 : Nat} {h : mm_H} {o : Nat} {X : Nat → Nat → Int32} {Y : Nat → Nat → Int64} {rl : Option Nat} {s : aS} {ST : Nat → Bool} {g : Nat} (ha : cm_at o X Y rl h) (hW : WF s) (hI : CI s ST X Y rl) (hg : g < 16) (h6 : aNv s = 6) : mm_V (zz_K l D aa b0) 2 yX11_voice cX11_voice 3 (some .int) 0 [(0, .ref (o + 0)), (1, .int (nI (g)))] [] h 0 0 (fun rv h' => h' = h ∧ rv = some (.int (-3))) := by
  have hf := cm_fr.rf (o := o) (h := h)
  refine mm_iload_n dX11_voice_0 rfl 1 rfl ?_
  refine mn_if_lt (tgt := 10) dX11_voice_1 (by decide) (by omega) ?_
  refine mm_iload_n dX11_voice_4 rfl 1 rfl ?_
  refine mm_bipush (v := nI 16) dX11_voice_5 (by decide) ?_
  refine mn_icmp_lt (tgt := 13) dX11_voice_7 (by decide) (by omega) (by omega) (fun c7 => ?_) (fun c7 => ?_)
  · refine mm_aload_n dX11_voice_13 rfl 0 rfl ?_
    refine cm_getI dX11_voice_14 ha zr_X11_47 (by decide) rfl rfl ?_
    refine mn_top (u := .int (nI (aNv s))) (congrArg Value.int ((hI.1.1))) ?_
    refine mn_if_lt (tgt := 32) dX11_voice_17 (by decide) (by omega) ?_
    refine mm_aload_n dX11_voice_20 rfl 0 rfl ?_
    refine cm_getI dX11_voice_21 ha zr_X11_47 (by decide) rfl rfl ?_
    refine mn_top (u := .int (nI (aNv s))) (congrArg Value.int ((hI.1.1))) ?_
    refine mm_aload_n dX11_voice_24 rfl 0 rfl ?_
    refine cm_getR (b := 1) dX11_voice_25 ha zr_X11_11 (by decide) rfl rfl rfl ?_
    refine cm_alenV dX11_voice_28 ha ?_
    refine mn_icmp_lt (tgt := 36) dX11_voice_29 (by decide) (by omega) (by omega) (fun c29 => ?_) (fun c29 => ?_)
    · omega
    · refine mm_null dX11_voice_32 ?_
      refine mm_goto (tgt := 45) dX11_voice_33 (by decide) ?_
      refine mm_astoreN_n (L' := [(2, .null), (0, .ref (o + 0)), (1, .int (nI (g)))]) dX11_voice_45 rfl (by decide) rfl ?_
      refine mm_aloadN_n dX11_voice_46 rfl 0 rfl ?_
      refine mm_ifnonnullN dX11_voice_47 ?_
      refine mm_bipush (v := (-3)) dX11_voice_50 (by decide) ?_
      exact mm_iret dX11_voice_52 rfl (⟨rfl, rfl⟩)
  · omega
set_option maxRecDepth 100000 in
set_option maxHeartbeats 4000000 in
theorem cM_voice {l : Launch} {D : va_G} {aa : Nat → ClassId} {b0 : Nat} {h : mm_H} {o : Nat} {X : Nat → Nat → Int32} {Y : Nat → Nat → Int64} {rl : Option Nat} {s : aS} {ST : Nat → Bool} {g : Nat} (ha : cm_at o X Y rl h) (hW : WF s) (hI : CI s ST X Y rl) (hg : g < 16) (h6 : aNv s < 6) : mm_V (zz_K l D aa b0) 2 yX11_voice cX11_voice 3 (some .int) 0 [(0, .ref (o + 0)), (1, .int (nI (g)))] [] h 0 0 (fun rv h' => rv = some (.int (nI (aNv s))) ∧ ∃ X' : Nat → Nat → Int32, cm_at o X' Y rl h' ∧ cm_fr o h h' ∧ CI (aVoice s g) (ST) X' Y rl) := by
  have hf := cm_fr.rf (o := o) (h := h)
  have hva : vA (61 + 10 * aNv s) := Or.inr ⟨_, h6, rfl⟩
  refine mm_iload_n dX11_voice_0 rfl 1 rfl ?_
  refine mn_if_lt (tgt := 10) dX11_voice_1 (by decide) (by omega) ?_
  refine mm_iload_n dX11_voice_4 rfl 1 rfl ?_
  refine mm_bipush (v := nI 16) dX11_voice_5 (by decide) ?_
  refine mn_icmp_lt (tgt := 13) dX11_voice_7 (by decide) (by omega) (by omega) (fun c7 => ?_) (fun c7 => ?_)
  · refine mm_aload_n dX11_voice_13 rfl 0 rfl ?_
    refine cm_getI dX11_voice_14 ha zr_X11_47 (by decide) rfl rfl ?_
    refine mn_top (u := .int (nI (aNv s))) (congrArg Value.int ((hI.1.1))) ?_
    refine mn_if_lt (tgt := 32) dX11_voice_17 (by decide) (by omega) ?_
    refine mm_aload_n dX11_voice_20 rfl 0 rfl ?_
    refine cm_getI dX11_voice_21 ha zr_X11_47 (by decide) rfl rfl ?_
    refine mn_top (u := .int (nI (aNv s))) (congrArg Value.int ((hI.1.1))) ?_
    refine mm_aload_n dX11_voice_24 rfl 0 rfl ?_
    refine cm_getR (b := 1) dX11_voice_25 ha zr_X11_11 (by decide) rfl rfl rfl ?_
    refine cm_alenV dX11_voice_28 ha ?_
    refine mn_icmp_lt (tgt := 36) dX11_voice_29 (by decide) (by omega) (by omega) (fun c29 => ?_) (fun c29 => ?_)
    · refine mm_aload_n dX11_voice_36 rfl 0 rfl ?_
      refine cm_getR (b := 1) dX11_voice_37 ha zr_X11_11 (by decide) rfl rfl rfl ?_
      refine mm_aload_n dX11_voice_40 rfl 0 rfl ?_
      refine cm_getI dX11_voice_41 ha zr_X11_47 (by decide) rfl rfl ?_
      refine mn_top (u := .int (nI (aNv s))) (congrArg Value.int ((hI.1.1))) ?_
      refine cm_aaldV (i := aNv s) dX11_voice_44 ha (by omega) ?_
      refine mm_astore_n (L' := [(2, .ref (o + (61 + 10 * (aNv s)))), (0, .ref (o + 0)), (1, .int (nI (g)))]) dX11_voice_45 rfl (by decide) rfl ?_
      refine mm_aload_n dX11_voice_46 rfl 0 rfl ?_
      refine mm_ifnonnull (tgt := 53) dX11_voice_47 (by decide) ?_
      refine mm_aload_n dX11_voice_53 rfl 0 rfl ?_
      refine mm_iload_n dX11_voice_54 rfl 2 rfl ?_
      refine cm_callV (As := [.int (nI (g))]) (rest := []) (d2 := 1) dX11_voice_55 ha (vA_lt hva 0 (by decide)) (vA_0 hva) zz_clX9 zc_X11_51 zs_X9_setSign rfl rfl (Nat.le_of_ble_eq_true rfl) (Nat.le_of_ble_eq_true rfl) (by decide) (cv_setSign (a := 61 + 10 * aNv s) ha hva hg) (fun r h1 hq => ?_)
      obtain ⟨rfl, X1, ha, hf', hvs, hx1⟩ := hq
      have hf := hf.tr hf'
      refine mm_aload_n dX11_voice_58 rfl 1 rfl ?_
      refine mm_dup dX11_voice_59 rfl ?_
      refine cm_getI dX11_voice_60 ha zr_X11_47 (by decide) rfl rfl ?_
      refine mn_top (u := .int (nI (aNv s))) (congrArg Value.int (((hx1 _ _ (by omega) (by omega)).trans hI.1.1))) ?_
      refine mm_iconst (v := nI 1) dX11_voice_63 (by decide) ?_
      refine mn_iadd dX11_voice_64 ?_
      refine cm_putI dX11_voice_65 ha hf zp_X11_47 (by decide) rfl rfl rfl rfl (fun h1 ha hf => ?_)
      refine mm_aload_n dX11_voice_68 rfl 1 rfl ?_
      refine cm_getI dX11_voice_69 ha zr_X11_47 (by decide) rfl rfl ?_
      refine mn_top (u := .int (nI ((aNv s) + (1)))) (congrArg Value.int (xu_s)) ?_
      refine mm_iconst (v := nI 1) dX11_voice_72 (by decide) ?_
      refine mn_isub dX11_voice_73 (by omega) ?_
      refine mn_top (u := .int (nI (aNv s))) (congrArg Value.int (by rw [Nat.add_sub_cancel])) ?_
      exact mm_iret dX11_voice_74 rfl (⟨rfl, _, ha, hf, CI_voice hW hI h6 (vs_s hvs (fun b i z => xu_a (by omega))) xu_s (fun b i n1 n2 n3 => (xu_z n3).trans (hx1 b i n1 n2))⟩)
    · omega
  · omega
theorem i32_pi {p : Int32} (h : (-40) ≤ p ∧ p ≤ nI 40) : p = Int32.ofInt p.toInt ∧ (-40 ≤ p.toInt ∧ p.toInt ≤ 40) := by
  refine ⟨(Int32.ofInt_toInt p).symm, ?_, ?_⟩
  · have := Int32.le_iff_toInt_le.mp h.1
    have e : (-40 : Int32).toInt = -40 := by decide
    omega
  · have := Int32.le_iff_toInt_le.mp h.2
    have e : (nI 40).toInt = 40 := by decide
    omega
set_option maxRecDepth 100000 in
set_option maxHeartbeats 4000000 in
theorem cM_note {l : Launch} {D : va_G} {aa : Nat → ClassId} {b0 : Nat} {h : mm_H} {o : Nat} {X : Nat → Nat → Int32} {Y : Nat → Nat → Int64} {rl : Option Nat} {s : aS} {ST : Nat → Bool} {n : Nat} {ki : Nat} {p : Int32} {co : Bool} (ha : cm_at o X Y rl h) (hW : WF s) (hI : CI s ST X Y rl) (hn : n < aNv s) (hki : ki < 7) (hp : (-40) ≤ p ∧ p ≤ nI 40) (hroom : aSz s n < 24) : mm_V (zz_K l D aa b0) 2 yX11_note cX11_note 6 (some .int) 0 [(0, .ref (o + 0)), (1, .int (nI (n))), (2, .int (nI (ki))), (3, .int (p)), (4, .int (nI (Bool.toNat (co))))] [] h 0 0 (fun rv h' => rv = some (.int (nI (aSz s n))) ∧ ∃ X' : Nat → Nat → Int32, cm_at o X' Y rl h' ∧ cm_fr o h h' ∧ CI (aPut s n 1 ki p.toInt co) (fun u => if u = n then true else ST u) X' Y rl) := by
  have hf := cm_fr.rf (o := o) (h := h)
  have hn6 : n < 6 := by have := hW.1.1; omega
  have hva : vA (61 + 10 * n) := Or.inr ⟨n, hn6, rfl⟩
  have hvok := hW.2.1 n hn6
  have hrk := vok_rk hvok
  have hd0 := hvok.2.2.2.2.1
  have hsz24 : aSz s n ≤ 24 := hvok.1.2
  have hL := rD_len hrk
  obtain ⟨hvs, hvw, hr2, hvst, -⟩ := hI.2.1 n hn6
  have hvs := hvs hn
  have hk1 : decide (ki < 7) = true := decide_eq_true hki
  have hp1 : decide ((-40) ≤ p ∧ p ≤ nI 40) = true := decide_eq_true hp
  refine mm_aload_n dX11_note_0 rfl 0 rfl ?_
  refine mm_iload_n dX11_note_1 rfl 1 rfl ?_
  refine cm_callVr (As := [.int (nI (n))]) (rest := []) (d2 := 0) dX11_note_2 ha (by decide) rfl zz_clX11 zc_X11_55 zs_X11_voiceAt rfl rfl (Nat.le_of_ble_eq_true rfl) (Nat.le_of_ble_eq_true rfl) (by decide) (cM_voiceAt ha hI.1.1 hW.1.1 hn) ?_
  refine mm_astore (L' := [(5, .ref (o + (61 + 10 * n))), (0, .ref (o + 0)), (1, .int (nI (n))), (2, .int (nI (ki))), (3, .int (p)), (4, .int (nI (Bool.toNat (co))))]) dX11_note_5 (by decide) rfl ?_
  refine mm_aload dX11_note_7 0 rfl ?_
  refine mm_ifnull dX11_note_9 ?_
  refine mm_iload_n dX11_note_12 rfl 3 rfl ?_
  refine rm_callSr (As := [.int (nI (ki))]) (rest := []) (d2 := 0) dX11_note_13 zc_X11_59 rfl rfl (Nat.le_of_ble_eq_true rfl) (Nat.le_of_ble_eq_true rfl) (by decide) (ck_isKind (k := ki) (by omega)) ?_
  refine mn_ifB_eq (tgt := 26) dX11_note_16 (by decide) (fun c16 => ?_) (fun c16 => ?_)
  · rw [hk1] at c16; cases c16
  · refine mm_iload_n dX11_note_19 rfl 4 rfl ?_
    refine rm_callSr (As := [.int (p)]) (rest := []) (d2 := 0) dX11_note_20 zc_X11_63 rfl rfl (Nat.le_of_ble_eq_true rfl) (Nat.le_of_ble_eq_true rfl) (by decide) (ck_isPitchI (x := p)) ?_
    refine mn_ifB_ne (tgt := 29) dX11_note_23 (by decide) (fun c23 => ?_) (fun c23 => ?_)
    · refine mm_aload dX11_note_29 0 rfl ?_
      refine mm_iconst (v := nI 1) dX11_note_31 (by decide) ?_
      refine mm_iload_n dX11_note_32 rfl 3 rfl ?_
      refine mm_iload_n dX11_note_33 rfl 4 rfl ?_
      refine mm_iload dX11_note_34 5 rfl ?_
      refine cm_callV (As := [.int (nI (1)), .int (nI (ki)), .int (p), .int (nI (Bool.toNat (co)))]) (rest := []) (d2 := 1) dX11_note_36 ha (vA_lt hva 0 (by decide)) (vA_0 hva) zz_clX9 zc_X11_66 zs_X9_append rfl rfl (Nat.le_of_ble_eq_true rfl) (Nat.le_of_ble_eq_true rfl) (by decide) (cv_append (a := 61 + 10 * n) ha hva hvw.1.1 hroom) (fun r h1 hq => ?_)
      obtain ⟨rfl, ha, hf'⟩ := hq
      have hf := hf.tr hf'
      have hci := CI_put (so := 1) (ki := ki) (pi := p.toInt) (co := co) (X' := (xu (xu (xu (xu (xu (xu (xu (xu (xu X (61 + 10 * n + 3 + 1) (aSz s n) (nI 1)) (61 + 10 * n + 3 + 2) (aSz s n) (nI ki)) (61 + 10 * n + 3 + 3) (aSz s n) (p)) (61 + 10 * n + 3 + 4) (aSz s n) (nI (Bool.toNat co))) (61 + 10 * n + 3 + 5) (aSz s n) (X (61 + 10 * n + 3) 7)) (61 + 10 * n + 3 + 6) (aSz s n) (X (61 + 10 * n + 3) 8)) (61 + 10 * n + 3) 6 (nI (aSz s n + 1))) (61 + 10 * n) 8 (nI 1)) (61 + 10 * n) 7 (nI 0))) hW hI hn hroom ⟨by decide, by decide⟩ hki (fun z => absurd rfl z)
        (by rw [xu_a (by omega), xu_a (by omega), xu_a (by omega), xu_a (by omega), xu_a (by omega), xu_a (by omega), xu_a (by omega), xu_a (by omega), xu_s])
        (by rw [xu_a (by omega), xu_a (by omega), xu_a (by omega), xu_a (by omega), xu_a (by omega), xu_a (by omega), xu_a (by omega), xu_s]; rfl)
        (by rw [xu_a (by omega), xu_a (by omega), xu_a (by omega), xu_a (by omega), xu_a (by omega), xu_a (by omega), xu_s]; exact (i32_pi hp).1)
        (by rw [xu_a (by omega), xu_a (by omega), xu_a (by omega), xu_a (by omega), xu_a (by omega), xu_s])
        (by rw [xu_a (by omega), xu_a (by omega), xu_a (by omega), xu_a (by omega), xu_s])
        (by rw [xu_a (by omega), xu_a (by omega), xu_a (by omega), xu_s])
        (by rw [xu_a (by omega), xu_a (by omega), xu_s])
        (by rw [xu_i (by decide), xu_s])
        xu_s
        (fun b i n1 n2 n3 => by rw [xu_z (by omega), xu_z (by omega), xu_z (by omega), xu_z (by omega), xu_z (by omega), xu_z (by omega), xu_z (by omega), xu_z (by omega), xu_z (by omega)])
      exact mm_iret dX11_note_39 rfl (⟨rfl, _, ha, hf, hci⟩)
    · rw [hp1] at c23; cases c23
set_option maxRecDepth 100000 in
set_option maxHeartbeats 4000000 in
theorem cM_noteF {l : Launch} {D : va_G} {aa : Nat → ClassId} {b0 : Nat} {h : mm_H} {o : Nat} {X : Nat → Nat → Int32} {Y : Nat → Nat → Int64} {rl : Option Nat} {s : aS} {ST : Nat → Bool} {n : Nat} {ki : Nat} {p : Int32} {co : Bool} (ha : cm_at o X Y rl h) (hW : WF s) (hI : CI s ST X Y rl) (hn : n < aNv s) (hki : ki < 7) (hp : (-40) ≤ p ∧ p ≤ nI 40) (hfull : aSz s n = 24) : mm_V (zz_K l D aa b0) 2 yX11_note cX11_note 6 (some .int) 0 [(0, .ref (o + 0)), (1, .int (nI (n))), (2, .int (nI (ki))), (3, .int (p)), (4, .int (nI (Bool.toNat (co))))] [] h 0 0 (fun rv h' => rv = some (.int (-3)) ∧ ∃ X' : Nat → Nat → Int32, cm_at o X' Y rl h' ∧ cm_fr o h h' ∧ CI (s) (ST) X' Y rl) := by
  have hf := cm_fr.rf (o := o) (h := h)
  have hn6 : n < 6 := by have := hW.1.1; omega
  have hva : vA (61 + 10 * n) := Or.inr ⟨n, hn6, rfl⟩
  have hvok := hW.2.1 n hn6
  have hrk := vok_rk hvok
  have hd0 := hvok.2.2.2.2.1
  have hsz24 : aSz s n ≤ 24 := hvok.1.2
  have hL := rD_len hrk
  obtain ⟨hvs, hvw, hr2, hvst, -⟩ := hI.2.1 n hn6
  have hvs := hvs hn
  have hk1 : decide (ki < 7) = true := decide_eq_true hki
  have hp1 : decide ((-40) ≤ p ∧ p ≤ nI 40) = true := decide_eq_true hp
  refine mm_aload_n dX11_note_0 rfl 0 rfl ?_
  refine mm_iload_n dX11_note_1 rfl 1 rfl ?_
  refine cm_callVr (As := [.int (nI (n))]) (rest := []) (d2 := 0) dX11_note_2 ha (by decide) rfl zz_clX11 zc_X11_55 zs_X11_voiceAt rfl rfl (Nat.le_of_ble_eq_true rfl) (Nat.le_of_ble_eq_true rfl) (by decide) (cM_voiceAt ha hI.1.1 hW.1.1 hn) ?_
  refine mm_astore (L' := [(5, .ref (o + (61 + 10 * n))), (0, .ref (o + 0)), (1, .int (nI (n))), (2, .int (nI (ki))), (3, .int (p)), (4, .int (nI (Bool.toNat (co))))]) dX11_note_5 (by decide) rfl ?_
  refine mm_aload dX11_note_7 0 rfl ?_
  refine mm_ifnull dX11_note_9 ?_
  refine mm_iload_n dX11_note_12 rfl 3 rfl ?_
  refine rm_callSr (As := [.int (nI (ki))]) (rest := []) (d2 := 0) dX11_note_13 zc_X11_59 rfl rfl (Nat.le_of_ble_eq_true rfl) (Nat.le_of_ble_eq_true rfl) (by decide) (ck_isKind (k := ki) (by omega)) ?_
  refine mn_ifB_eq (tgt := 26) dX11_note_16 (by decide) (fun c16 => ?_) (fun c16 => ?_)
  · rw [hk1] at c16; cases c16
  · refine mm_iload_n dX11_note_19 rfl 4 rfl ?_
    refine rm_callSr (As := [.int (p)]) (rest := []) (d2 := 0) dX11_note_20 zc_X11_63 rfl rfl (Nat.le_of_ble_eq_true rfl) (Nat.le_of_ble_eq_true rfl) (by decide) (ck_isPitchI (x := p)) ?_
    refine mn_ifB_ne (tgt := 29) dX11_note_23 (by decide) (fun c23 => ?_) (fun c23 => ?_)
    · refine mm_aload dX11_note_29 0 rfl ?_
      refine mm_iconst (v := nI 1) dX11_note_31 (by decide) ?_
      refine mm_iload_n dX11_note_32 rfl 3 rfl ?_
      refine mm_iload_n dX11_note_33 rfl 4 rfl ?_
      refine mm_iload dX11_note_34 5 rfl ?_
      refine cm_callV (As := [.int (nI (1)), .int (nI (ki)), .int (p), .int (nI (Bool.toNat (co)))]) (rest := []) (d2 := 1) dX11_note_36 ha (vA_lt hva 0 (by decide)) (vA_0 hva) zz_clX9 zc_X11_66 zs_X9_append rfl rfl (Nat.le_of_ble_eq_true rfl) (Nat.le_of_ble_eq_true rfl) (by decide) (cv_appendF (a := 61 + 10 * n) ha hva hvw.1.1 hfull) (fun r h1 hq => ?_)
      obtain ⟨rfl, ha, hf'⟩ := hq
      have hf := hf.tr hf'
      exact mm_iret dX11_note_39 rfl (⟨rfl, X, ha, hf, hI⟩)
    · rw [hp1] at c23; cases c23
set_option maxRecDepth 100000 in
set_option maxHeartbeats 4000000 in
theorem cM_rest {l : Launch} {D : va_G} {aa : Nat → ClassId} {b0 : Nat} {h : mm_H} {o : Nat} {X : Nat → Nat → Int32} {Y : Nat → Nat → Int64} {rl : Option Nat} {s : aS} {ST : Nat → Bool} {n : Nat} {ki : Nat} (ha : cm_at o X Y rl h) (hW : WF s) (hI : CI s ST X Y rl) (hn : n < aNv s) (hki : ki < 7) (hroom : aSz s n < 24) : mm_V (zz_K l D aa b0) 2 yX11_rest cX11_rest 4 (some .int) 0 [(0, .ref (o + 0)), (1, .int (nI (n))), (2, .int (nI (ki)))] [] h 0 0 (fun rv h' => rv = some (.int (nI (aSz s n))) ∧ ∃ X' : Nat → Nat → Int32, cm_at o X' Y rl h' ∧ cm_fr o h h' ∧ CI (aPut s n 2 ki 0 false) (fun u => if u = n then true else ST u) X' Y rl) := by
  have hf := cm_fr.rf (o := o) (h := h)
  have hn6 : n < 6 := by have := hW.1.1; omega
  have hva : vA (61 + 10 * n) := Or.inr ⟨n, hn6, rfl⟩
  have hvok := hW.2.1 n hn6
  have hrk := vok_rk hvok
  have hd0 := hvok.2.2.2.2.1
  have hsz24 : aSz s n ≤ 24 := hvok.1.2
  have hL := rD_len hrk
  obtain ⟨hvs, hvw, hr2, hvst, -⟩ := hI.2.1 n hn6
  have hvs := hvs hn
  have hk1 : decide (ki < 7) = true := decide_eq_true hki
  refine mm_aload_n dX11_rest_0 rfl 0 rfl ?_
  refine mm_iload_n dX11_rest_1 rfl 1 rfl ?_
  refine cm_callVr (As := [.int (nI (n))]) (rest := []) (d2 := 0) dX11_rest_2 ha (by decide) rfl zz_clX11 zc_X11_55 zs_X11_voiceAt rfl rfl (Nat.le_of_ble_eq_true rfl) (Nat.le_of_ble_eq_true rfl) (by decide) (cM_voiceAt ha hI.1.1 hW.1.1 hn) ?_
  refine mm_astore_n (L' := [(3, .ref (o + (61 + 10 * n))), (0, .ref (o + 0)), (1, .int (nI (n))), (2, .int (nI (ki)))]) dX11_rest_5 rfl (by decide) rfl ?_
  refine mm_aload_n dX11_rest_6 rfl 0 rfl ?_
  refine mm_ifnull dX11_rest_7 ?_
  refine mm_iload_n dX11_rest_10 rfl 3 rfl ?_
  refine rm_callSr (As := [.int (nI (ki))]) (rest := []) (d2 := 0) dX11_rest_11 zc_X11_59 rfl rfl (Nat.le_of_ble_eq_true rfl) (Nat.le_of_ble_eq_true rfl) (by decide) (ck_isKind (k := ki) (by omega)) ?_
  refine mn_ifB_ne (tgt := 20) dX11_rest_14 (by decide) (fun c14 => ?_) (fun c14 => ?_)
  · refine mm_aload_n dX11_rest_20 rfl 0 rfl ?_
    refine mm_iconst (v := nI 2) dX11_rest_21 (by decide) ?_
    refine mm_iload_n dX11_rest_22 rfl 3 rfl ?_
    refine mm_iconst (v := (-1)) dX11_rest_23 (by decide) ?_
    refine mm_iconst (v := nI 0) dX11_rest_24 (by decide) ?_
    refine mn_top (u := .int (nI (Bool.toNat false))) (congrArg Value.int (rfl)) ?_
    refine cm_callV (As := [.int (nI (2)), .int (nI (ki)), .int ((-1)), .int (nI (Bool.toNat (false)))]) (rest := []) (d2 := 1) dX11_rest_25 ha (vA_lt hva 0 (by decide)) (vA_0 hva) zz_clX9 zc_X11_66 zs_X9_append rfl rfl (Nat.le_of_ble_eq_true rfl) (Nat.le_of_ble_eq_true rfl) (by decide) (cv_append (a := 61 + 10 * n) ha hva hvw.1.1 hroom) (fun r h1 hq => ?_)
    obtain ⟨rfl, ha, hf'⟩ := hq
    have hf := hf.tr hf'
    have hci := CI_put (so := 2) (ki := ki) (pi := 0) (co := false) (X' := (xu (xu (xu (xu (xu (xu (xu (xu (xu X (61 + 10 * n + 3 + 1) (aSz s n) (nI 2)) (61 + 10 * n + 3 + 2) (aSz s n) (nI ki)) (61 + 10 * n + 3 + 3) (aSz s n) (-1)) (61 + 10 * n + 3 + 4) (aSz s n) (nI (Bool.toNat false))) (61 + 10 * n + 3 + 5) (aSz s n) (X (61 + 10 * n + 3) 7)) (61 + 10 * n + 3 + 6) (aSz s n) (X (61 + 10 * n + 3) 8)) (61 + 10 * n + 3) 6 (nI (aSz s n + 1))) (61 + 10 * n) 8 (nI 1)) (61 + 10 * n) 7 (nI 0))) hW hI hn hroom ⟨by decide, by decide⟩ hki (fun _ => rfl)
      (by rw [xu_a (by omega), xu_a (by omega), xu_a (by omega), xu_a (by omega), xu_a (by omega), xu_a (by omega), xu_a (by omega), xu_a (by omega), xu_s])
      (by rw [xu_a (by omega), xu_a (by omega), xu_a (by omega), xu_a (by omega), xu_a (by omega), xu_a (by omega), xu_a (by omega), xu_s]; rfl)
      (by rw [xu_a (by omega), xu_a (by omega), xu_a (by omega), xu_a (by omega), xu_a (by omega), xu_a (by omega), xu_s]; rfl)
      (by rw [xu_a (by omega), xu_a (by omega), xu_a (by omega), xu_a (by omega), xu_a (by omega), xu_s])
      (by rw [xu_a (by omega), xu_a (by omega), xu_a (by omega), xu_a (by omega), xu_s])
      (by rw [xu_a (by omega), xu_a (by omega), xu_a (by omega), xu_s])
      (by rw [xu_a (by omega), xu_a (by omega), xu_s])
      (by rw [xu_i (by decide), xu_s])
      xu_s
      (fun b i n1 n2 n3 => by rw [xu_z (by omega), xu_z (by omega), xu_z (by omega), xu_z (by omega), xu_z (by omega), xu_z (by omega), xu_z (by omega), xu_z (by omega), xu_z (by omega)])
    exact mm_iret dX11_rest_28 rfl (⟨rfl, _, ha, hf, hci⟩)
  · rw [hk1] at c14; cases c14
set_option maxRecDepth 100000 in
set_option maxHeartbeats 4000000 in
theorem cM_restF {l : Launch} {D : va_G} {aa : Nat → ClassId} {b0 : Nat} {h : mm_H} {o : Nat} {X : Nat → Nat → Int32} {Y : Nat → Nat → Int64} {rl : Option Nat} {s : aS} {ST : Nat → Bool} {n : Nat} {ki : Nat} (ha : cm_at o X Y rl h) (hW : WF s) (hI : CI s ST X Y rl) (hn : n < aNv s) (hki : ki < 7) (hfull : aSz s n = 24) : mm_V (zz_K l D aa b0) 2 yX11_rest cX11_rest 4 (some .int) 0 [(0, .ref (o + 0)), (1, .int (nI (n))), (2, .int (nI (ki)))] [] h 0 0 (fun rv h' => rv = some (.int (-3)) ∧ ∃ X' : Nat → Nat → Int32, cm_at o X' Y rl h' ∧ cm_fr o h h' ∧ CI (s) (ST) X' Y rl) := by
  have hf := cm_fr.rf (o := o) (h := h)
  have hn6 : n < 6 := by have := hW.1.1; omega
  have hva : vA (61 + 10 * n) := Or.inr ⟨n, hn6, rfl⟩
  have hvok := hW.2.1 n hn6
  have hrk := vok_rk hvok
  have hd0 := hvok.2.2.2.2.1
  have hsz24 : aSz s n ≤ 24 := hvok.1.2
  have hL := rD_len hrk
  obtain ⟨hvs, hvw, hr2, hvst, -⟩ := hI.2.1 n hn6
  have hvs := hvs hn
  have hk1 : decide (ki < 7) = true := decide_eq_true hki
  refine mm_aload_n dX11_rest_0 rfl 0 rfl ?_
  refine mm_iload_n dX11_rest_1 rfl 1 rfl ?_
  refine cm_callVr (As := [.int (nI (n))]) (rest := []) (d2 := 0) dX11_rest_2 ha (by decide) rfl zz_clX11 zc_X11_55 zs_X11_voiceAt rfl rfl (Nat.le_of_ble_eq_true rfl) (Nat.le_of_ble_eq_true rfl) (by decide) (cM_voiceAt ha hI.1.1 hW.1.1 hn) ?_
  refine mm_astore_n (L' := [(3, .ref (o + (61 + 10 * n))), (0, .ref (o + 0)), (1, .int (nI (n))), (2, .int (nI (ki)))]) dX11_rest_5 rfl (by decide) rfl ?_
  refine mm_aload_n dX11_rest_6 rfl 0 rfl ?_
  refine mm_ifnull dX11_rest_7 ?_
  refine mm_iload_n dX11_rest_10 rfl 3 rfl ?_
  refine rm_callSr (As := [.int (nI (ki))]) (rest := []) (d2 := 0) dX11_rest_11 zc_X11_59 rfl rfl (Nat.le_of_ble_eq_true rfl) (Nat.le_of_ble_eq_true rfl) (by decide) (ck_isKind (k := ki) (by omega)) ?_
  refine mn_ifB_ne (tgt := 20) dX11_rest_14 (by decide) (fun c14 => ?_) (fun c14 => ?_)
  · refine mm_aload_n dX11_rest_20 rfl 0 rfl ?_
    refine mm_iconst (v := nI 2) dX11_rest_21 (by decide) ?_
    refine mm_iload_n dX11_rest_22 rfl 3 rfl ?_
    refine mm_iconst (v := (-1)) dX11_rest_23 (by decide) ?_
    refine mm_iconst (v := nI 0) dX11_rest_24 (by decide) ?_
    refine mn_top (u := .int (nI (Bool.toNat false))) (congrArg Value.int (rfl)) ?_
    refine cm_callV (As := [.int (nI (2)), .int (nI (ki)), .int ((-1)), .int (nI (Bool.toNat (false)))]) (rest := []) (d2 := 1) dX11_rest_25 ha (vA_lt hva 0 (by decide)) (vA_0 hva) zz_clX9 zc_X11_66 zs_X9_append rfl rfl (Nat.le_of_ble_eq_true rfl) (Nat.le_of_ble_eq_true rfl) (by decide) (cv_appendF (a := 61 + 10 * n) ha hva hvw.1.1 hfull) (fun r h1 hq => ?_)
    obtain ⟨rfl, ha, hf'⟩ := hq
    have hf := hf.tr hf'
    exact mm_iret dX11_rest_28 rfl (⟨rfl, X, ha, hf, hI⟩)
  · rw [hk1] at c14; cases c14
set_option maxRecDepth 100000 in
set_option maxHeartbeats 4000000 in
theorem cM_noteB {l : Launch} {D : va_G} {aa : Nat → ClassId} {b0 : Nat} {h : mm_H} {o : Nat} {X : Nat → Nat → Int32} {Y : Nat → Nat → Int64} {rl : Option Nat} {s : aS} {ST : Nat → Bool} {n : Nat} {k p : Int32} {co : Bool} (ha : cm_at o X Y rl h) (hW : WF s) (hI : CI s ST X Y rl) (hn : n < aNv s) (hb : ¬ (0 ≤ k ∧ k < nI 7) ∨ ¬ ((-40) ≤ p ∧ p ≤ nI 40)) : mm_V (zz_K l D aa b0) 2 yX11_note cX11_note 6 (some .int) 0 [(0, .ref (o + 0)), (1, .int (nI (n))), (2, .int (k)), (3, .int (p)), (4, .int (nI (Bool.toNat (co))))] [] h 0 0 (fun rv h' => h' = h ∧ rv = some (.int (-2))) := by
  have hf := cm_fr.rf (o := o) (h := h)
  have hn6 : n < 6 := by have := hW.1.1; omega
  have hva : vA (61 + 10 * n) := Or.inr ⟨n, hn6, rfl⟩
  have hvok := hW.2.1 n hn6
  have hrk := vok_rk hvok
  have hd0 := hvok.2.2.2.2.1
  have hsz24 : aSz s n ≤ 24 := hvok.1.2
  have hL := rD_len hrk
  obtain ⟨hvs, hvw, hr2, hvst, -⟩ := hI.2.1 n hn6
  have hvs := hvs hn
  refine mm_aload_n dX11_note_0 rfl 0 rfl ?_
  refine mm_iload_n dX11_note_1 rfl 1 rfl ?_
  refine cm_callVr (As := [.int (nI (n))]) (rest := []) (d2 := 0) dX11_note_2 ha (by decide) rfl zz_clX11 zc_X11_55 zs_X11_voiceAt rfl rfl (Nat.le_of_ble_eq_true rfl) (Nat.le_of_ble_eq_true rfl) (by decide) (cM_voiceAt ha hI.1.1 hW.1.1 hn) ?_
  refine mm_astore (L' := [(5, .ref (o + (61 + 10 * n))), (0, .ref (o + 0)), (1, .int (nI (n))), (2, .int (k)), (3, .int (p)), (4, .int (nI (Bool.toNat (co))))]) dX11_note_5 (by decide) rfl ?_
  refine mm_aload dX11_note_7 0 rfl ?_
  refine mm_ifnull dX11_note_9 ?_
  refine mm_iload_n dX11_note_12 rfl 3 rfl ?_
  refine rm_callSr (As := [.int (k)]) (rest := []) (d2 := 0) dX11_note_13 zc_X11_59 rfl rfl (Nat.le_of_ble_eq_true rfl) (Nat.le_of_ble_eq_true rfl) (by decide) (ck_isKindI (x := k)) ?_
  refine mn_ifB_eq (tgt := 26) dX11_note_16 (by decide) (fun c16 => ?_) (fun c16 => ?_)
  · refine mm_bipush (v := (-2)) dX11_note_26 (by decide) ?_
    exact mm_iret dX11_note_28 rfl (⟨rfl, rfl⟩)
  · refine mm_iload_n dX11_note_19 rfl 4 rfl ?_
    refine rm_callSr (As := [.int (p)]) (rest := []) (d2 := 0) dX11_note_20 zc_X11_63 rfl rfl (Nat.le_of_ble_eq_true rfl) (Nat.le_of_ble_eq_true rfl) (by decide) (ck_isPitchI (x := p)) ?_
    refine mn_ifB_ne (tgt := 29) dX11_note_23 (by decide) (fun c23 => ?_) (fun c23 => ?_)
    · refine mm_aload dX11_note_29 0 rfl ?_
      refine mm_iconst (v := nI 1) dX11_note_31 (by decide) ?_
      refine mm_iload_n dX11_note_32 rfl 3 rfl ?_
      refine mm_iload_n dX11_note_33 rfl 4 rfl ?_
      refine mm_iload dX11_note_34 5 rfl ?_
      exact False.elim (hb.elim (fun z => z (of_decide_eq_true c16)) (fun z => z (of_decide_eq_true c23)))
    · refine mm_bipush (v := (-2)) dX11_note_26 (by decide) ?_
      exact mm_iret dX11_note_28 rfl (⟨rfl, rfl⟩)
set_option maxRecDepth 100000 in
set_option maxHeartbeats 4000000 in
theorem cM_restB {l : Launch} {D : va_G} {aa : Nat → ClassId} {b0 : Nat} {h : mm_H} {o : Nat} {X : Nat → Nat → Int32} {Y : Nat → Nat → Int64} {rl : Option Nat} {s : aS} {ST : Nat → Bool} {n : Nat} {k : Int32} (ha : cm_at o X Y rl h) (hW : WF s) (hI : CI s ST X Y rl) (hn : n < aNv s) (hb : ¬ (0 ≤ k ∧ k < nI 7)) : mm_V (zz_K l D aa b0) 2 yX11_rest cX11_rest 4 (some .int) 0 [(0, .ref (o + 0)), (1, .int (nI (n))), (2, .int (k))] [] h 0 0 (fun rv h' => h' = h ∧ rv = some (.int (-2))) := by
  have hf := cm_fr.rf (o := o) (h := h)
  have hn6 : n < 6 := by have := hW.1.1; omega
  have hva : vA (61 + 10 * n) := Or.inr ⟨n, hn6, rfl⟩
  have hvok := hW.2.1 n hn6
  have hrk := vok_rk hvok
  have hd0 := hvok.2.2.2.2.1
  have hsz24 : aSz s n ≤ 24 := hvok.1.2
  have hL := rD_len hrk
  obtain ⟨hvs, hvw, hr2, hvst, -⟩ := hI.2.1 n hn6
  have hvs := hvs hn
  refine mm_aload_n dX11_rest_0 rfl 0 rfl ?_
  refine mm_iload_n dX11_rest_1 rfl 1 rfl ?_
  refine cm_callVr (As := [.int (nI (n))]) (rest := []) (d2 := 0) dX11_rest_2 ha (by decide) rfl zz_clX11 zc_X11_55 zs_X11_voiceAt rfl rfl (Nat.le_of_ble_eq_true rfl) (Nat.le_of_ble_eq_true rfl) (by decide) (cM_voiceAt ha hI.1.1 hW.1.1 hn) ?_
  refine mm_astore_n (L' := [(3, .ref (o + (61 + 10 * n))), (0, .ref (o + 0)), (1, .int (nI (n))), (2, .int (k))]) dX11_rest_5 rfl (by decide) rfl ?_
  refine mm_aload_n dX11_rest_6 rfl 0 rfl ?_
  refine mm_ifnull dX11_rest_7 ?_
  refine mm_iload_n dX11_rest_10 rfl 3 rfl ?_
  refine rm_callSr (As := [.int (k)]) (rest := []) (d2 := 0) dX11_rest_11 zc_X11_59 rfl rfl (Nat.le_of_ble_eq_true rfl) (Nat.le_of_ble_eq_true rfl) (by decide) (ck_isKindI (x := k)) ?_
  refine mn_ifB_ne (tgt := 20) dX11_rest_14 (by decide) (fun c14 => ?_) (fun c14 => ?_)
  · refine mm_aload_n dX11_rest_20 rfl 0 rfl ?_
    refine mm_iconst (v := nI 2) dX11_rest_21 (by decide) ?_
    refine mm_iload_n dX11_rest_22 rfl 3 rfl ?_
    refine mm_iconst (v := (-1)) dX11_rest_23 (by decide) ?_
    refine mm_iconst (v := nI 0) dX11_rest_24 (by decide) ?_
    exact absurd (of_decide_eq_true c14) hb
  · refine mm_bipush (v := (-2)) dX11_rest_17 (by decide) ?_
    exact mm_iret dX11_rest_19 rfl (⟨rfl, rfl⟩)
set_option maxRecDepth 100000 in
set_option maxHeartbeats 4000000 in
theorem cM_dotE {l : Launch} {D : va_G} {aa : Nat → ClassId} {b0 : Nat} {h : mm_H} {o : Nat} {X : Nat → Nat → Int32} {Y : Nat → Nat → Int64} {rl : Option Nat} {s : aS} {ST : Nat → Bool} {n : Nat} (ha : cm_at o X Y rl h) (hW : WF s) (hI : CI s ST X Y rl) (hn : n < aNv s) (h0 : aSz s n = 0) : mm_V (zz_K l D aa b0) 2 yX11_dot cX11_dot 4 (some .int) 0 [(0, .ref (o + 0)), (1, .int (nI (n)))] [] h 0 0 (fun rv h' => h' = h ∧ rv = some (.int (-2))) := by
  have hf := cm_fr.rf (o := o) (h := h)
  have hn6 : n < 6 := by have := hW.1.1; omega
  have hva : vA (61 + 10 * n) := Or.inr ⟨n, hn6, rfl⟩
  have hvok := hW.2.1 n hn6
  have hrk := vok_rk hvok
  have hd0 := hvok.2.2.2.2.1
  have hsz24 : aSz s n ≤ 24 := hvok.1.2
  have hL := rD_len hrk
  obtain ⟨hvs, hvw, hr2, hvst, -⟩ := hI.2.1 n hn6
  have hvs := hvs hn
  refine mm_aload_n dX11_dot_0 rfl 0 rfl ?_
  refine mm_iload_n dX11_dot_1 rfl 1 rfl ?_
  refine cm_callVr (As := [.int (nI (n))]) (rest := []) (d2 := 0) dX11_dot_2 ha (by decide) rfl zz_clX11 zc_X11_55 zs_X11_voiceAt rfl rfl (Nat.le_of_ble_eq_true rfl) (Nat.le_of_ble_eq_true rfl) (by decide) (cM_voiceAt ha hI.1.1 hW.1.1 hn) ?_
  refine mm_astore_n (L' := [(2, .ref (o + (61 + 10 * n))), (0, .ref (o + 0)), (1, .int (nI (n)))]) dX11_dot_5 rfl (by decide) rfl ?_
  refine mm_aload_n dX11_dot_6 rfl 0 rfl ?_
  refine mm_ifnonnull (tgt := 13) dX11_dot_7 (by decide) ?_
  refine mm_aload_n dX11_dot_13 rfl 0 rfl ?_
  refine cm_getR (b := 61 + 10 * n + 3) dX11_dot_14 ha zr_X11_70 (vA_lt hva 0 (by decide)) (vA_0 hva) rfl rfl ?_
  refine mm_aload_n dX11_dot_17 rfl 0 rfl ?_
  refine cm_getR (b := 61 + 10 * n + 3) dX11_dot_18 ha zr_X11_70 (vA_lt hva 0 (by decide)) (vA_0 hva) rfl rfl ?_
  refine cm_getI dX11_dot_21 ha zr_X11_74 (vA_lt hva 3 (by decide)) (vA_3 hva) rfl ?_
  refine mn_top (u := .int (nI (aSz s n))) (congrArg Value.int ((hvw.1.1))) ?_
  refine mm_iconst (v := nI 1) dX11_dot_24 (by decide) ?_
  refine mm_isub dX11_dot_25 ?_
  refine mn_top (u := .int ((-1))) (congrArg Value.int (by rw [h0]; rfl)) ?_
  refine cm_callVr (As := [.int ((-1))]) (rest := []) (d2 := 0) dX11_dot_26 ha (vA_lt hva 3 (by decide)) (vA_3 hva) zz_clX6 zc_X11_79 zs_X6_sortAt rfl rfl (Nat.le_of_ble_eq_true rfl) (Nat.le_of_ble_eq_true rfl) (by decide) (cr_sortAtN ha (vr_A hva) hvw.1.1 (Or.inl (by decide))) ?_
  refine mm_istore_n (L' := [(3, .int ((-1))), (2, .ref (o + (61 + 10 * n))), (0, .ref (o + 0)), (1, .int (nI (n)))]) dX11_dot_29 rfl (by decide) rfl ?_
  refine mm_iload_n dX11_dot_30 rfl 0 rfl ?_
  refine mm_iconst (v := nI 1) dX11_dot_31 (by decide) ?_
  refine mm_icmp_eq (tgt := 43) dX11_dot_32 (by decide) (fun c32 => ?_) (fun c32 => ?_)
  · exact absurd c32 (by decide)
  · refine mm_iload_n dX11_dot_35 rfl 0 rfl ?_
    refine mm_iconst (v := nI 2) dX11_dot_36 (by decide) ?_
    refine mm_icmp_eq (tgt := 43) dX11_dot_37 (by decide) (fun c37 => ?_) (fun c37 => ?_)
    · exact absurd c37 (by decide)
    · refine mm_bipush (v := (-2)) dX11_dot_40 (by decide) ?_
      exact mm_iret dX11_dot_42 rfl (⟨rfl, rfl⟩)
set_option maxRecDepth 100000 in
set_option maxHeartbeats 4000000 in
theorem cM_dotD {l : Launch} {D : va_G} {aa : Nat → ClassId} {b0 : Nat} {h : mm_H} {o : Nat} {X : Nat → Nat → Int32} {Y : Nat → Nat → Int64} {rl : Option Nat} {s : aS} {ST : Nat → Bool} {n : Nat} (ha : cm_at o X Y rl h) (hW : WF s) (hI : CI s ST X Y rl) (hn : n < aNv s) (h0 : aSz s n ≠ 0) (hl : aSo s (24 * n + (aSz s n - 1)) = 3) : mm_V (zz_K l D aa b0) 2 yX11_dot cX11_dot 4 (some .int) 0 [(0, .ref (o + 0)), (1, .int (nI (n)))] [] h 0 0 (fun rv h' => h' = h ∧ rv = some (.int (-2))) := by
  have hf := cm_fr.rf (o := o) (h := h)
  have hn6 : n < 6 := by have := hW.1.1; omega
  have hva : vA (61 + 10 * n) := Or.inr ⟨n, hn6, rfl⟩
  have hvok := hW.2.1 n hn6
  have hrk := vok_rk hvok
  have hd0 := hvok.2.2.2.2.1
  have hsz24 : aSz s n ≤ 24 := hvok.1.2
  have hL := rD_len hrk
  obtain ⟨hvs, hvw, hr2, hvst, -⟩ := hI.2.1 n hn6
  have hvs := hvs hn
  refine mm_aload_n dX11_dot_0 rfl 0 rfl ?_
  refine mm_iload_n dX11_dot_1 rfl 1 rfl ?_
  refine cm_callVr (As := [.int (nI (n))]) (rest := []) (d2 := 0) dX11_dot_2 ha (by decide) rfl zz_clX11 zc_X11_55 zs_X11_voiceAt rfl rfl (Nat.le_of_ble_eq_true rfl) (Nat.le_of_ble_eq_true rfl) (by decide) (cM_voiceAt ha hI.1.1 hW.1.1 hn) ?_
  refine mm_astore_n (L' := [(2, .ref (o + (61 + 10 * n))), (0, .ref (o + 0)), (1, .int (nI (n)))]) dX11_dot_5 rfl (by decide) rfl ?_
  refine mm_aload_n dX11_dot_6 rfl 0 rfl ?_
  refine mm_ifnonnull (tgt := 13) dX11_dot_7 (by decide) ?_
  refine mm_aload_n dX11_dot_13 rfl 0 rfl ?_
  refine cm_getR (b := 61 + 10 * n + 3) dX11_dot_14 ha zr_X11_70 (vA_lt hva 0 (by decide)) (vA_0 hva) rfl rfl ?_
  refine mm_aload_n dX11_dot_17 rfl 0 rfl ?_
  refine cm_getR (b := 61 + 10 * n + 3) dX11_dot_18 ha zr_X11_70 (vA_lt hva 0 (by decide)) (vA_0 hva) rfl rfl ?_
  refine cm_getI dX11_dot_21 ha zr_X11_74 (vA_lt hva 3 (by decide)) (vA_3 hva) rfl ?_
  refine mn_top (u := .int (nI (aSz s n))) (congrArg Value.int ((hvw.1.1))) ?_
  refine mm_iconst (v := nI 1) dX11_dot_24 (by decide) ?_
  refine mn_isub dX11_dot_25 (by omega) ?_
  have hi : aSz s n - 1 < aSz s n := by omega
  have hwi := hvw.2 _ hi
  have e1 : (aW s n).2.1 (aSz s n - 1) = aSo s (24 * n + (aSz s n - 1)) := if_pos hi
  rw [e1] at hwi
  refine cm_callVr (As := [.int (nI ((aSz s n) - (1)))]) (rest := []) (d2 := 0) dX11_dot_26 ha (vA_lt hva 3 (by decide)) (vA_3 hva) zz_clX6 zc_X11_79 zs_X6_sortAt rfl rfl (Nat.le_of_ble_eq_true rfl) (Nat.le_of_ble_eq_true rfl) (by decide) (cr_sortAt ha (vr_A hva) hvw.1.1 hsz24 (by omega)) ?_
  refine mn_top (u := .int (nI (aSo s (24 * n + (aSz s n - 1))))) (congrArg Value.int ((if_pos hi).trans hwi.1)) ?_
  have hso := hwi.2.1
  refine mm_istore_n (L' := [(3, .int (nI (aSo s (24 * n + (aSz s n - 1))))), (2, .ref (o + (61 + 10 * n))), (0, .ref (o + 0)), (1, .int (nI (n)))]) dX11_dot_29 rfl (by decide) rfl ?_
  refine mm_iload_n dX11_dot_30 rfl 0 rfl ?_
  refine mm_iconst (v := nI 1) dX11_dot_31 (by decide) ?_
  refine mn_icmp_eq (tgt := 43) dX11_dot_32 (by decide) (by omega) (by omega) (fun c32 => ?_) (fun c32 => ?_)
  · refine mm_aload_n dX11_dot_43 rfl 1 rfl ?_
    refine mm_iconst (v := nI 3) dX11_dot_44 (by decide) ?_
    refine mm_iconst (v := (-1)) dX11_dot_45 (by decide) ?_
    refine mm_iconst (v := (-1)) dX11_dot_46 (by decide) ?_
    refine mm_iconst (v := nI 0) dX11_dot_47 (by decide) ?_
    omega
  · refine mm_iload_n dX11_dot_35 rfl 0 rfl ?_
    refine mm_iconst (v := nI 2) dX11_dot_36 (by decide) ?_
    refine mn_icmp_eq (tgt := 43) dX11_dot_37 (by decide) (by omega) (by omega) (fun c37 => ?_) (fun c37 => ?_)
    · refine mm_aload_n dX11_dot_43 rfl 1 rfl ?_
      refine mm_iconst (v := nI 3) dX11_dot_44 (by decide) ?_
      refine mm_iconst (v := (-1)) dX11_dot_45 (by decide) ?_
      refine mm_iconst (v := (-1)) dX11_dot_46 (by decide) ?_
      refine mm_iconst (v := nI 0) dX11_dot_47 (by decide) ?_
      omega
    · refine mm_bipush (v := (-2)) dX11_dot_40 (by decide) ?_
      exact mm_iret dX11_dot_42 rfl (⟨rfl, rfl⟩)
set_option maxRecDepth 100000 in
set_option maxHeartbeats 4000000 in
theorem cM_dot {l : Launch} {D : va_G} {aa : Nat → ClassId} {b0 : Nat} {h : mm_H} {o : Nat} {X : Nat → Nat → Int32} {Y : Nat → Nat → Int64} {rl : Option Nat} {s : aS} {ST : Nat → Bool} {n : Nat} (ha : cm_at o X Y rl h) (hW : WF s) (hI : CI s ST X Y rl) (hn : n < aNv s) (h0 : aSz s n ≠ 0) (hl : aSo s (24 * n + (aSz s n - 1)) ≠ 3) (hroom : aSz s n < 24) : mm_V (zz_K l D aa b0) 2 yX11_dot cX11_dot 4 (some .int) 0 [(0, .ref (o + 0)), (1, .int (nI (n)))] [] h 0 0 (fun rv h' => rv = some (.int (nI (aSz s n))) ∧ ∃ X' : Nat → Nat → Int32, cm_at o X' Y rl h' ∧ cm_fr o h h' ∧ CI (aPut s n 3 0 0 false) (fun u => if u = n then true else ST u) X' Y rl) := by
  have hf := cm_fr.rf (o := o) (h := h)
  have hn6 : n < 6 := by have := hW.1.1; omega
  have hva : vA (61 + 10 * n) := Or.inr ⟨n, hn6, rfl⟩
  have hvok := hW.2.1 n hn6
  have hrk := vok_rk hvok
  have hd0 := hvok.2.2.2.2.1
  have hsz24 : aSz s n ≤ 24 := hvok.1.2
  have hL := rD_len hrk
  obtain ⟨hvs, hvw, hr2, hvst, -⟩ := hI.2.1 n hn6
  have hvs := hvs hn
  refine mm_aload_n dX11_dot_0 rfl 0 rfl ?_
  refine mm_iload_n dX11_dot_1 rfl 1 rfl ?_
  refine cm_callVr (As := [.int (nI (n))]) (rest := []) (d2 := 0) dX11_dot_2 ha (by decide) rfl zz_clX11 zc_X11_55 zs_X11_voiceAt rfl rfl (Nat.le_of_ble_eq_true rfl) (Nat.le_of_ble_eq_true rfl) (by decide) (cM_voiceAt ha hI.1.1 hW.1.1 hn) ?_
  refine mm_astore_n (L' := [(2, .ref (o + (61 + 10 * n))), (0, .ref (o + 0)), (1, .int (nI (n)))]) dX11_dot_5 rfl (by decide) rfl ?_
  refine mm_aload_n dX11_dot_6 rfl 0 rfl ?_
  refine mm_ifnonnull (tgt := 13) dX11_dot_7 (by decide) ?_
  refine mm_aload_n dX11_dot_13 rfl 0 rfl ?_
  refine cm_getR (b := 61 + 10 * n + 3) dX11_dot_14 ha zr_X11_70 (vA_lt hva 0 (by decide)) (vA_0 hva) rfl rfl ?_
  refine mm_aload_n dX11_dot_17 rfl 0 rfl ?_
  refine cm_getR (b := 61 + 10 * n + 3) dX11_dot_18 ha zr_X11_70 (vA_lt hva 0 (by decide)) (vA_0 hva) rfl rfl ?_
  refine cm_getI dX11_dot_21 ha zr_X11_74 (vA_lt hva 3 (by decide)) (vA_3 hva) rfl ?_
  refine mn_top (u := .int (nI (aSz s n))) (congrArg Value.int ((hvw.1.1))) ?_
  refine mm_iconst (v := nI 1) dX11_dot_24 (by decide) ?_
  refine mn_isub dX11_dot_25 (by omega) ?_
  have hi : aSz s n - 1 < aSz s n := by omega
  have hwi := hvw.2 _ hi
  have e1 : (aW s n).2.1 (aSz s n - 1) = aSo s (24 * n + (aSz s n - 1)) := if_pos hi
  rw [e1] at hwi
  refine cm_callVr (As := [.int (nI ((aSz s n) - (1)))]) (rest := []) (d2 := 0) dX11_dot_26 ha (vA_lt hva 3 (by decide)) (vA_3 hva) zz_clX6 zc_X11_79 zs_X6_sortAt rfl rfl (Nat.le_of_ble_eq_true rfl) (Nat.le_of_ble_eq_true rfl) (by decide) (cr_sortAt ha (vr_A hva) hvw.1.1 hsz24 (by omega)) ?_
  refine mn_top (u := .int (nI (aSo s (24 * n + (aSz s n - 1))))) (congrArg Value.int ((if_pos hi).trans hwi.1)) ?_
  have hso := hwi.2.1
  refine mm_istore_n (L' := [(3, .int (nI (aSo s (24 * n + (aSz s n - 1))))), (2, .ref (o + (61 + 10 * n))), (0, .ref (o + 0)), (1, .int (nI (n)))]) dX11_dot_29 rfl (by decide) rfl ?_
  refine mm_iload_n dX11_dot_30 rfl 0 rfl ?_
  refine mm_iconst (v := nI 1) dX11_dot_31 (by decide) ?_
  refine mn_icmp_eq (tgt := 43) dX11_dot_32 (by decide) (by omega) (by omega) (fun c32 => ?_) (fun c32 => ?_)
  · refine mm_aload_n dX11_dot_43 rfl 1 rfl ?_
    refine mm_iconst (v := nI 3) dX11_dot_44 (by decide) ?_
    refine mm_iconst (v := (-1)) dX11_dot_45 (by decide) ?_
    refine mm_iconst (v := (-1)) dX11_dot_46 (by decide) ?_
    refine mm_iconst (v := nI 0) dX11_dot_47 (by decide) ?_
    refine mn_top (u := .int (nI (Bool.toNat false))) (congrArg Value.int (rfl)) ?_
    refine cm_callV (As := [.int (nI (3)), .int ((-1)), .int ((-1)), .int (nI (Bool.toNat (false)))]) (rest := []) (d2 := 1) dX11_dot_48 ha (vA_lt hva 0 (by decide)) (vA_0 hva) zz_clX9 zc_X11_66 zs_X9_append rfl rfl (Nat.le_of_ble_eq_true rfl) (Nat.le_of_ble_eq_true rfl) (by decide) (cv_append (a := 61 + 10 * n) ha hva hvw.1.1 hroom) (fun r h1 hq => ?_)
    obtain ⟨rfl, ha, hf'⟩ := hq
    have hf := hf.tr hf'
    have hci := CI_put (so := 3) (ki := 0) (pi := 0) (co := false) (X' := (xu (xu (xu (xu (xu (xu (xu (xu (xu X (61 + 10 * n + 3 + 1) (aSz s n) (nI 3)) (61 + 10 * n + 3 + 2) (aSz s n) (-1)) (61 + 10 * n + 3 + 3) (aSz s n) (-1)) (61 + 10 * n + 3 + 4) (aSz s n) (nI (Bool.toNat false))) (61 + 10 * n + 3 + 5) (aSz s n) (X (61 + 10 * n + 3) 7)) (61 + 10 * n + 3 + 6) (aSz s n) (X (61 + 10 * n + 3) 8)) (61 + 10 * n + 3) 6 (nI (aSz s n + 1))) (61 + 10 * n) 8 (nI 1)) (61 + 10 * n) 7 (nI 0))) hW hI hn hroom ⟨by decide, by decide⟩ (by decide) (fun _ => rfl)
      (by rw [xu_a (by omega), xu_a (by omega), xu_a (by omega), xu_a (by omega), xu_a (by omega), xu_a (by omega), xu_a (by omega), xu_a (by omega), xu_s])
      (by rw [xu_a (by omega), xu_a (by omega), xu_a (by omega), xu_a (by omega), xu_a (by omega), xu_a (by omega), xu_a (by omega), xu_s]; rfl)
      (by rw [xu_a (by omega), xu_a (by omega), xu_a (by omega), xu_a (by omega), xu_a (by omega), xu_a (by omega), xu_s]; rfl)
      (by rw [xu_a (by omega), xu_a (by omega), xu_a (by omega), xu_a (by omega), xu_a (by omega), xu_s])
      (by rw [xu_a (by omega), xu_a (by omega), xu_a (by omega), xu_a (by omega), xu_s])
      (by rw [xu_a (by omega), xu_a (by omega), xu_a (by omega), xu_s])
      (by rw [xu_a (by omega), xu_a (by omega), xu_s])
      (by rw [xu_i (by decide), xu_s])
      xu_s
      (fun b i n1 n2 n3 => by rw [xu_z (by omega), xu_z (by omega), xu_z (by omega), xu_z (by omega), xu_z (by omega), xu_z (by omega), xu_z (by omega), xu_z (by omega), xu_z (by omega)])
    exact mm_iret dX11_dot_51 rfl (⟨rfl, _, ha, hf, hci⟩)
  · refine mm_iload_n dX11_dot_35 rfl 0 rfl ?_
    refine mm_iconst (v := nI 2) dX11_dot_36 (by decide) ?_
    refine mn_icmp_eq (tgt := 43) dX11_dot_37 (by decide) (by omega) (by omega) (fun c37 => ?_) (fun c37 => ?_)
    · refine mm_aload_n dX11_dot_43 rfl 1 rfl ?_
      refine mm_iconst (v := nI 3) dX11_dot_44 (by decide) ?_
      refine mm_iconst (v := (-1)) dX11_dot_45 (by decide) ?_
      refine mm_iconst (v := (-1)) dX11_dot_46 (by decide) ?_
      refine mm_iconst (v := nI 0) dX11_dot_47 (by decide) ?_
      refine mn_top (u := .int (nI (Bool.toNat false))) (congrArg Value.int (rfl)) ?_
      refine cm_callV (As := [.int (nI (3)), .int ((-1)), .int ((-1)), .int (nI (Bool.toNat (false)))]) (rest := []) (d2 := 1) dX11_dot_48 ha (vA_lt hva 0 (by decide)) (vA_0 hva) zz_clX9 zc_X11_66 zs_X9_append rfl rfl (Nat.le_of_ble_eq_true rfl) (Nat.le_of_ble_eq_true rfl) (by decide) (cv_append (a := 61 + 10 * n) ha hva hvw.1.1 hroom) (fun r h1 hq => ?_)
      obtain ⟨rfl, ha, hf'⟩ := hq
      have hf := hf.tr hf'
      have hci := CI_put (so := 3) (ki := 0) (pi := 0) (co := false) (X' := (xu (xu (xu (xu (xu (xu (xu (xu (xu X (61 + 10 * n + 3 + 1) (aSz s n) (nI 3)) (61 + 10 * n + 3 + 2) (aSz s n) (-1)) (61 + 10 * n + 3 + 3) (aSz s n) (-1)) (61 + 10 * n + 3 + 4) (aSz s n) (nI (Bool.toNat false))) (61 + 10 * n + 3 + 5) (aSz s n) (X (61 + 10 * n + 3) 7)) (61 + 10 * n + 3 + 6) (aSz s n) (X (61 + 10 * n + 3) 8)) (61 + 10 * n + 3) 6 (nI (aSz s n + 1))) (61 + 10 * n) 8 (nI 1)) (61 + 10 * n) 7 (nI 0))) hW hI hn hroom ⟨by decide, by decide⟩ (by decide) (fun _ => rfl)
        (by rw [xu_a (by omega), xu_a (by omega), xu_a (by omega), xu_a (by omega), xu_a (by omega), xu_a (by omega), xu_a (by omega), xu_a (by omega), xu_s])
        (by rw [xu_a (by omega), xu_a (by omega), xu_a (by omega), xu_a (by omega), xu_a (by omega), xu_a (by omega), xu_a (by omega), xu_s]; rfl)
        (by rw [xu_a (by omega), xu_a (by omega), xu_a (by omega), xu_a (by omega), xu_a (by omega), xu_a (by omega), xu_s]; rfl)
        (by rw [xu_a (by omega), xu_a (by omega), xu_a (by omega), xu_a (by omega), xu_a (by omega), xu_s])
        (by rw [xu_a (by omega), xu_a (by omega), xu_a (by omega), xu_a (by omega), xu_s])
        (by rw [xu_a (by omega), xu_a (by omega), xu_a (by omega), xu_s])
        (by rw [xu_a (by omega), xu_a (by omega), xu_s])
        (by rw [xu_i (by decide), xu_s])
        xu_s
        (fun b i n1 n2 n3 => by rw [xu_z (by omega), xu_z (by omega), xu_z (by omega), xu_z (by omega), xu_z (by omega), xu_z (by omega), xu_z (by omega), xu_z (by omega), xu_z (by omega)])
      exact mm_iret dX11_dot_51 rfl (⟨rfl, _, ha, hf, hci⟩)
    · omega
set_option maxRecDepth 100000 in
set_option maxHeartbeats 4000000 in
theorem cM_dotF {l : Launch} {D : va_G} {aa : Nat → ClassId} {b0 : Nat} {h : mm_H} {o : Nat} {X : Nat → Nat → Int32} {Y : Nat → Nat → Int64} {rl : Option Nat} {s : aS} {ST : Nat → Bool} {n : Nat} (ha : cm_at o X Y rl h) (hW : WF s) (hI : CI s ST X Y rl) (hn : n < aNv s) (h0 : aSz s n ≠ 0) (hl : aSo s (24 * n + (aSz s n - 1)) ≠ 3) (hfull : aSz s n = 24) : mm_V (zz_K l D aa b0) 2 yX11_dot cX11_dot 4 (some .int) 0 [(0, .ref (o + 0)), (1, .int (nI (n)))] [] h 0 0 (fun rv h' => rv = some (.int (-3)) ∧ ∃ X' : Nat → Nat → Int32, cm_at o X' Y rl h' ∧ cm_fr o h h' ∧ CI (s) (ST) X' Y rl) := by
  have hf := cm_fr.rf (o := o) (h := h)
  have hn6 : n < 6 := by have := hW.1.1; omega
  have hva : vA (61 + 10 * n) := Or.inr ⟨n, hn6, rfl⟩
  have hvok := hW.2.1 n hn6
  have hrk := vok_rk hvok
  have hd0 := hvok.2.2.2.2.1
  have hsz24 : aSz s n ≤ 24 := hvok.1.2
  have hL := rD_len hrk
  obtain ⟨hvs, hvw, hr2, hvst, -⟩ := hI.2.1 n hn6
  have hvs := hvs hn
  refine mm_aload_n dX11_dot_0 rfl 0 rfl ?_
  refine mm_iload_n dX11_dot_1 rfl 1 rfl ?_
  refine cm_callVr (As := [.int (nI (n))]) (rest := []) (d2 := 0) dX11_dot_2 ha (by decide) rfl zz_clX11 zc_X11_55 zs_X11_voiceAt rfl rfl (Nat.le_of_ble_eq_true rfl) (Nat.le_of_ble_eq_true rfl) (by decide) (cM_voiceAt ha hI.1.1 hW.1.1 hn) ?_
  refine mm_astore_n (L' := [(2, .ref (o + (61 + 10 * n))), (0, .ref (o + 0)), (1, .int (nI (n)))]) dX11_dot_5 rfl (by decide) rfl ?_
  refine mm_aload_n dX11_dot_6 rfl 0 rfl ?_
  refine mm_ifnonnull (tgt := 13) dX11_dot_7 (by decide) ?_
  refine mm_aload_n dX11_dot_13 rfl 0 rfl ?_
  refine cm_getR (b := 61 + 10 * n + 3) dX11_dot_14 ha zr_X11_70 (vA_lt hva 0 (by decide)) (vA_0 hva) rfl rfl ?_
  refine mm_aload_n dX11_dot_17 rfl 0 rfl ?_
  refine cm_getR (b := 61 + 10 * n + 3) dX11_dot_18 ha zr_X11_70 (vA_lt hva 0 (by decide)) (vA_0 hva) rfl rfl ?_
  refine cm_getI dX11_dot_21 ha zr_X11_74 (vA_lt hva 3 (by decide)) (vA_3 hva) rfl ?_
  refine mn_top (u := .int (nI (aSz s n))) (congrArg Value.int ((hvw.1.1))) ?_
  refine mm_iconst (v := nI 1) dX11_dot_24 (by decide) ?_
  refine mn_isub dX11_dot_25 (by omega) ?_
  have hi : aSz s n - 1 < aSz s n := by omega
  have hwi := hvw.2 _ hi
  have e1 : (aW s n).2.1 (aSz s n - 1) = aSo s (24 * n + (aSz s n - 1)) := if_pos hi
  rw [e1] at hwi
  refine cm_callVr (As := [.int (nI ((aSz s n) - (1)))]) (rest := []) (d2 := 0) dX11_dot_26 ha (vA_lt hva 3 (by decide)) (vA_3 hva) zz_clX6 zc_X11_79 zs_X6_sortAt rfl rfl (Nat.le_of_ble_eq_true rfl) (Nat.le_of_ble_eq_true rfl) (by decide) (cr_sortAt ha (vr_A hva) hvw.1.1 hsz24 (by omega)) ?_
  refine mn_top (u := .int (nI (aSo s (24 * n + (aSz s n - 1))))) (congrArg Value.int ((if_pos hi).trans hwi.1)) ?_
  have hso := hwi.2.1
  refine mm_istore_n (L' := [(3, .int (nI (aSo s (24 * n + (aSz s n - 1))))), (2, .ref (o + (61 + 10 * n))), (0, .ref (o + 0)), (1, .int (nI (n)))]) dX11_dot_29 rfl (by decide) rfl ?_
  refine mm_iload_n dX11_dot_30 rfl 0 rfl ?_
  refine mm_iconst (v := nI 1) dX11_dot_31 (by decide) ?_
  refine mn_icmp_eq (tgt := 43) dX11_dot_32 (by decide) (by omega) (by omega) (fun c32 => ?_) (fun c32 => ?_)
  · refine mm_aload_n dX11_dot_43 rfl 1 rfl ?_
    refine mm_iconst (v := nI 3) dX11_dot_44 (by decide) ?_
    refine mm_iconst (v := (-1)) dX11_dot_45 (by decide) ?_
    refine mm_iconst (v := (-1)) dX11_dot_46 (by decide) ?_
    refine mm_iconst (v := nI 0) dX11_dot_47 (by decide) ?_
    refine mn_top (u := .int (nI (Bool.toNat false))) (congrArg Value.int (rfl)) ?_
    refine cm_callV (As := [.int (nI (3)), .int ((-1)), .int ((-1)), .int (nI (Bool.toNat (false)))]) (rest := []) (d2 := 1) dX11_dot_48 ha (vA_lt hva 0 (by decide)) (vA_0 hva) zz_clX9 zc_X11_66 zs_X9_append rfl rfl (Nat.le_of_ble_eq_true rfl) (Nat.le_of_ble_eq_true rfl) (by decide) (cv_appendF (a := 61 + 10 * n) ha hva hvw.1.1 hfull) (fun r h1 hq => ?_)
    obtain ⟨rfl, ha, hf'⟩ := hq
    have hf := hf.tr hf'
    exact mm_iret dX11_dot_51 rfl (⟨rfl, X, ha, hf, hI⟩)
  · refine mm_iload_n dX11_dot_35 rfl 0 rfl ?_
    refine mm_iconst (v := nI 2) dX11_dot_36 (by decide) ?_
    refine mn_icmp_eq (tgt := 43) dX11_dot_37 (by decide) (by omega) (by omega) (fun c37 => ?_) (fun c37 => ?_)
    · refine mm_aload_n dX11_dot_43 rfl 1 rfl ?_
      refine mm_iconst (v := nI 3) dX11_dot_44 (by decide) ?_
      refine mm_iconst (v := (-1)) dX11_dot_45 (by decide) ?_
      refine mm_iconst (v := (-1)) dX11_dot_46 (by decide) ?_
      refine mm_iconst (v := nI 0) dX11_dot_47 (by decide) ?_
      refine mn_top (u := .int (nI (Bool.toNat false))) (congrArg Value.int (rfl)) ?_
      refine cm_callV (As := [.int (nI (3)), .int ((-1)), .int ((-1)), .int (nI (Bool.toNat (false)))]) (rest := []) (d2 := 1) dX11_dot_48 ha (vA_lt hva 0 (by decide)) (vA_0 hva) zz_clX9 zc_X11_66 zs_X9_append rfl rfl (Nat.le_of_ble_eq_true rfl) (Nat.le_of_ble_eq_true rfl) (by decide) (cv_appendF (a := 61 + 10 * n) ha hva hvw.1.1 hfull) (fun r h1 hq => ?_)
      obtain ⟨rfl, ha, hf'⟩ := hq
      have hf := hf.tr hf'
      exact mm_iret dX11_dot_51 rfl (⟨rfl, X, ha, hf, hI⟩)
    · omega
set_option maxRecDepth 100000 in
set_option maxHeartbeats 4000000 in
theorem cM_backE {l : Launch} {D : va_G} {aa : Nat → ClassId} {b0 : Nat} {h : mm_H} {o : Nat} {X : Nat → Nat → Int32} {Y : Nat → Nat → Int64} {rl : Option Nat} {s : aS} {ST : Nat → Bool} {n : Nat} (ha : cm_at o X Y rl h) (hW : WF s) (hI : CI s ST X Y rl) (hn : n < aNv s) (h0 : aSz s n = 0) : mm_V (zz_K l D aa b0) 2 yX11_back cX11_back 3 (some .int) 0 [(0, .ref (o + 0)), (1, .int (nI (n)))] [] h 0 0 (fun rv h' => h' = h ∧ rv = some (.int (-1))) := by
  have hf := cm_fr.rf (o := o) (h := h)
  have hn6 : n < 6 := by have := hW.1.1; omega
  have hva : vA (61 + 10 * n) := Or.inr ⟨n, hn6, rfl⟩
  have hvok := hW.2.1 n hn6
  have hrk := vok_rk hvok
  have hd0 := hvok.2.2.2.2.1
  have hsz24 : aSz s n ≤ 24 := hvok.1.2
  have hL := rD_len hrk
  obtain ⟨hvs, hvw, hr2, hvst, -⟩ := hI.2.1 n hn6
  have hvs := hvs hn
  refine mm_aload_n dX11_back_0 rfl 0 rfl ?_
  refine mm_iload_n dX11_back_1 rfl 1 rfl ?_
  refine cm_callVr (As := [.int (nI (n))]) (rest := []) (d2 := 0) dX11_back_2 ha (by decide) rfl zz_clX11 zc_X11_55 zs_X11_voiceAt rfl rfl (Nat.le_of_ble_eq_true rfl) (Nat.le_of_ble_eq_true rfl) (by decide) (cM_voiceAt ha hI.1.1 hW.1.1 hn) ?_
  refine mm_astore_n (L' := [(2, .ref (o + (61 + 10 * n))), (0, .ref (o + 0)), (1, .int (nI (n)))]) dX11_back_5 rfl (by decide) rfl ?_
  refine mm_aload_n dX11_back_6 rfl 0 rfl ?_
  refine mm_ifnonnull (tgt := 13) dX11_back_7 (by decide) ?_
  refine mm_aload_n dX11_back_13 rfl 0 rfl ?_
  refine cm_getR (b := 61 + 10 * n + 3) dX11_back_14 ha zr_X11_70 (vA_lt hva 0 (by decide)) (vA_0 hva) rfl rfl ?_
  refine cm_getI dX11_back_17 ha zr_X11_74 (vA_lt hva 3 (by decide)) (vA_3 hva) rfl ?_
  refine mn_top (u := .int (nI (aSz s n))) (congrArg Value.int ((hvw.1.1))) ?_
  refine mn_if_ne (tgt := 25) dX11_back_20 (by decide) (by omega) (fun c20 => ?_) (fun c20 => ?_)
  · exact absurd h0 c20
  · refine mm_iconst (v := (-1)) dX11_back_23 (by decide) ?_
    exact mm_iret dX11_back_24 rfl (⟨rfl, rfl⟩)
set_option maxRecDepth 100000 in
set_option maxHeartbeats 4000000 in
theorem cM_back {l : Launch} {D : va_G} {aa : Nat → ClassId} {b0 : Nat} {h : mm_H} {o : Nat} {X : Nat → Nat → Int32} {Y : Nat → Nat → Int64} {rl : Option Nat} {s : aS} {ST : Nat → Bool} {n : Nat} (ha : cm_at o X Y rl h) (hW : WF s) (hI : CI s ST X Y rl) (hn : n < aNv s) (h0 : aSz s n ≠ 0) : mm_V (zz_K l D aa b0) 2 yX11_back cX11_back 3 (some .int) 0 [(0, .ref (o + 0)), (1, .int (nI (n)))] [] h 0 0 (fun rv h' => rv = some (.int (nI (aSz s n - 1))) ∧ ∃ X' : Nat → Nat → Int32, cm_at o X' Y rl h' ∧ cm_fr o h h' ∧ CI (aBack s n) (fun u => if u = n then true else ST u) X' Y rl) := by
  have hf := cm_fr.rf (o := o) (h := h)
  have hn6 : n < 6 := by have := hW.1.1; omega
  have hva : vA (61 + 10 * n) := Or.inr ⟨n, hn6, rfl⟩
  have hvok := hW.2.1 n hn6
  have hrk := vok_rk hvok
  have hd0 := hvok.2.2.2.2.1
  have hsz24 : aSz s n ≤ 24 := hvok.1.2
  have hL := rD_len hrk
  obtain ⟨hvs, hvw, hr2, hvst, -⟩ := hI.2.1 n hn6
  have hvs := hvs hn
  refine mm_aload_n dX11_back_0 rfl 0 rfl ?_
  refine mm_iload_n dX11_back_1 rfl 1 rfl ?_
  refine cm_callVr (As := [.int (nI (n))]) (rest := []) (d2 := 0) dX11_back_2 ha (by decide) rfl zz_clX11 zc_X11_55 zs_X11_voiceAt rfl rfl (Nat.le_of_ble_eq_true rfl) (Nat.le_of_ble_eq_true rfl) (by decide) (cM_voiceAt ha hI.1.1 hW.1.1 hn) ?_
  refine mm_astore_n (L' := [(2, .ref (o + (61 + 10 * n))), (0, .ref (o + 0)), (1, .int (nI (n)))]) dX11_back_5 rfl (by decide) rfl ?_
  refine mm_aload_n dX11_back_6 rfl 0 rfl ?_
  refine mm_ifnonnull (tgt := 13) dX11_back_7 (by decide) ?_
  refine mm_aload_n dX11_back_13 rfl 0 rfl ?_
  refine cm_getR (b := 61 + 10 * n + 3) dX11_back_14 ha zr_X11_70 (vA_lt hva 0 (by decide)) (vA_0 hva) rfl rfl ?_
  refine cm_getI dX11_back_17 ha zr_X11_74 (vA_lt hva 3 (by decide)) (vA_3 hva) rfl ?_
  refine mn_top (u := .int (nI (aSz s n))) (congrArg Value.int ((hvw.1.1))) ?_
  refine mn_if_ne (tgt := 25) dX11_back_20 (by decide) (by omega) (fun c20 => ?_) (fun c20 => ?_)
  · have hz1 : X (61 + 10 * n + 3) 6 = nI (aSz s n - 1 + 1) := by rw [show aSz s n - 1 + 1 = aSz s n from by omega]; exact hvw.1.1
    refine mm_aload_n dX11_back_25 rfl 0 rfl ?_
    refine cm_callV (As := []) (rest := []) (d2 := 1) dX11_back_26 ha (vA_lt hva 0 (by decide)) (vA_0 hva) zz_clX9 zc_X11_106 zs_X9_removeLast rfl rfl (Nat.le_of_ble_eq_true rfl) (Nat.le_of_ble_eq_true rfl) (by decide) (cv_removeLast (a := 61 + 10 * n) ha hva hz1 (by omega)) (fun r h1 hq => ?_)
    obtain ⟨rfl, ha, hf'⟩ := hq
    have hf := hf.tr hf'
    refine mm_aload_n dX11_back_29 rfl 0 rfl ?_
    refine cm_getR (b := 61 + 10 * n + 3) dX11_back_30 ha zr_X11_70 (vA_lt hva 0 (by decide)) (vA_0 hva) rfl rfl ?_
    refine cm_getI dX11_back_33 ha zr_X11_74 (vA_lt hva 3 (by decide)) (vA_3 hva) rfl ?_
    refine mn_top (u := .int (nI (aSz s n - 1))) (congrArg Value.int (((xu_a (by omega)).trans ((xu_a (by omega)).trans xu_s)))) ?_
    exact mm_iret dX11_back_36 rfl (⟨rfl, _, ha, hf, CI_back hW hI hn (by omega) ((xu_a (by omega)).trans ((xu_a (by omega)).trans xu_s)) ((xu_i (by decide)).trans xu_s) xu_s (fun b i n1 n2 => by rw [xu_z (by omega), xu_z (by omega), xu_z (by omega)])⟩)
  · exact absurd c20 h0
set_option maxRecDepth 100000 in
set_option maxHeartbeats 4000000 in
theorem cr_multiply {l : Launch} {D : va_G} {aa : Nat → ClassId} {b0 : Nat} {h : mm_H} {o : Nat} {X : Nat → Nat → Int32} {Y : Nat → Nat → Int64} {rl : Option Nat} {r up dn u d : Nat} (ha : cm_at o X Y rl h) (hra : rA r) (hup : X r 7 = nI up) (hdn : X r 8 = nI dn) (hu : 0 < up ∧ up ≤ 1000) (hd : 0 < dn ∧ dn ≤ 1000) (hu9 : u ≤ 9) (hd9 : 0 < d ∧ d ≤ 9) : mm_V (zz_K l D aa b0) 1 yX6_multiply cX6_multiply 6 (some .boolean) 0 [(0, .ref (o + r)), (1, .int (nI (u))), (2, .int (nI (d)))] [] h 0 0 (fun rv h' => ((1000 < (red (up * u) (dn * d)).1 ∨ 1000 < (red (up * u) (dn * d)).2) ∧ h' = h ∧ rv = some (.int (nI 0))) ∨ (¬ (1000 < (red (up * u) (dn * d)).1 ∨ 1000 < (red (up * u) (dn * d)).2) ∧ rv = some (.int (nI 1)) ∧ cm_at o (xu (xu X r 7 (nI (red (up * u) (dn * d)).1)) r 8 (nI (red (up * u) (dn * d)).2)) Y rl h' ∧ cm_fr o h h')) := by
  have hf := cm_fr.rf (o := o) (h := h)
  have hm1 : up * u ≤ 1000 * 9 := Nat.mul_le_mul hu.2 hu9
  have hm2 : dn * d ≤ 1000 * 9 := Nat.mul_le_mul hd.2 hd9.2
  have hm3 : 0 < dn * d := Nat.mul_pos hd.1 hd9.1
  have hg1 : 0 < Nat.gcd (up * u) (dn * d) := Nat.gcd_pos_of_pos_right _ hm3
  have hgd : Nat.gcd (up * u) (dn * d) ≤ dn * d := Nat.gcd_le_right _ hm3
  have hr1 : (red (up * u) (dn * d)).1 ≤ 9000 := Nat.le_trans (Nat.div_le_self _ _) hm1
  have hr2 : (red (up * u) (dn * d)).2 ≤ 9000 := Nat.le_trans (Nat.div_le_self _ _) hm2
  refine mm_aload_n dX6_multiply_0 rfl 0 rfl ?_
  refine cm_getI dX6_multiply_1 ha zr_X6_31 (rA_lt hra 0 (by decide)) (rA_0 hra) rfl ?_
  refine mn_top (u := .int (nI (up))) (congrArg Value.int ((hup))) ?_
  refine mm_iload_n dX6_multiply_4 rfl 1 rfl ?_
  refine mn_imul dX6_multiply_5 ?_
  refine mm_istore_n (L' := [(3, .int (nI ((up) * (u)))), (0, .ref (o + r)), (1, .int (nI (u))), (2, .int (nI (d)))]) dX6_multiply_6 rfl (by decide) rfl ?_
  refine mm_aload_n dX6_multiply_7 rfl 1 rfl ?_
  refine cm_getI dX6_multiply_8 ha zr_X6_35 (rA_lt hra 0 (by decide)) (rA_0 hra) rfl ?_
  refine mn_top (u := .int (nI (dn))) (congrArg Value.int ((hdn))) ?_
  refine mm_iload_n dX6_multiply_11 rfl 3 rfl ?_
  refine mn_imul dX6_multiply_12 ?_
  refine mm_istore (L' := [(4, .int (nI ((dn) * (d)))), (3, .int (nI ((up) * (u)))), (0, .ref (o + r)), (1, .int (nI (u))), (2, .int (nI (d)))]) dX6_multiply_13 (by decide) rfl ?_
  refine mm_iload_n dX6_multiply_15 rfl 1 rfl ?_
  refine mn_i2l dX6_multiply_16 (by omega) ?_
  refine mm_iload dX6_multiply_17 0 rfl ?_
  refine mn_i2l dX6_multiply_19 (by omega) ?_
  refine rm_callSr (As := [.long (lN ((up) * (u))), .long (lN ((dn) * (d)))]) (rest := []) (d2 := 0) dX6_multiply_20 zc_X6_41 rfl rfl (Nat.le_of_ble_eq_true rfl) (Nat.le_of_ble_eq_true rfl) (by decide) (cq_common (by omega) (by omega)) ?_
  refine mn_l2i dX6_multiply_23 ?_
  refine mm_istore (L' := [(5, .int (nI (Nat.gcd (up * u) (dn * d)))), (4, .int (nI ((dn) * (d)))), (3, .int (nI ((up) * (u)))), (0, .ref (o + r)), (1, .int (nI (u))), (2, .int (nI (d)))]) dX6_multiply_24 (by decide) rfl ?_
  refine mm_iload dX6_multiply_26 0 rfl ?_
  refine mm_iconst (v := nI 1) dX6_multiply_28 (by decide) ?_
  have j44 : mm_V (zz_K l D aa b0) 1 yX6_multiply cX6_multiply 6 (some .boolean) 44 [(4, .int (nI ((red (up * u) (dn * d)).2))), (3, .int (nI ((red (up * u) (dn * d)).1))), (0, .ref (o + r)), (1, .int (nI (u))), (2, .int (nI (d)))] [] h 0 0 (fun rv h' => ((1000 < (red (up * u) (dn * d)).1 ∨ 1000 < (red (up * u) (dn * d)).2) ∧ h' = h ∧ rv = some (.int (nI 0))) ∨ (¬ (1000 < (red (up * u) (dn * d)).1 ∨ 1000 < (red (up * u) (dn * d)).2) ∧ rv = some (.int (nI 1)) ∧ cm_at o (xu (xu X r 7 (nI (red (up * u) (dn * d)).1)) r 8 (nI (red (up * u) (dn * d)).2)) Y rl h' ∧ cm_fr o h h')) := by
    refine mm_iload_n dX6_multiply_44 rfl 1 rfl ?_
    refine mm_sipush (v := nI 1000) dX6_multiply_45 (by decide) ?_
    refine mn_icmp_gt (tgt := 59) dX6_multiply_48 (by decide) (by omega) (by omega) (fun c48 => ?_) (fun c48 => ?_)
    · refine mm_iconst (v := nI 0) dX6_multiply_59 (by decide) ?_
      exact mm_zret dX6_multiply_60 rfl (by decide) (Or.inl ⟨by omega, rfl, rfl⟩)
    · refine mm_iload dX6_multiply_51 0 rfl ?_
      refine mm_sipush (v := nI 1000) dX6_multiply_53 (by decide) ?_
      refine mn_icmp_le (tgt := 61) dX6_multiply_56 (by decide) (by omega) (by omega) (fun c56 => ?_) (fun c56 => ?_)
      · refine mm_aload_n dX6_multiply_61 rfl 2 rfl ?_
        refine mm_iload_n dX6_multiply_62 rfl 1 rfl ?_
        refine cm_putI dX6_multiply_63 ha hf zp_X6_31 (rA_lt hra 0 (by decide)) (rA_0 hra) rfl rfl rfl (fun h ha hf => ?_)
        refine mm_aload_n dX6_multiply_66 rfl 2 rfl ?_
        refine mm_iload dX6_multiply_67 0 rfl ?_
        refine cm_putI dX6_multiply_69 ha hf zp_X6_35 (rA_lt hra 0 (by decide)) (rA_0 hra) rfl rfl rfl (fun h ha hf => ?_)
        refine mm_iconst (v := nI 1) dX6_multiply_72 (by decide) ?_
        exact mm_zret dX6_multiply_73 rfl (by decide) (Or.inr ⟨by omega, rfl, ha, hf⟩)
      · refine mm_iconst (v := nI 0) dX6_multiply_59 (by decide) ?_
        exact mm_zret dX6_multiply_60 rfl (by decide) (Or.inl ⟨by omega, rfl, rfl⟩)
  refine mn_icmp_le (tgt := 44) dX6_multiply_29 (by decide) (by omega) (by omega) (fun c29 => ?_) (fun c29 => ?_)
  · have e1 : Nat.gcd (up * u) (dn * d) = 1 := by omega
    have j := j44
    unfold red at j
    rw [e1, Nat.div_one, Nat.div_one] at j
    refine mn_sub [1, 2, 3, 4, 5] rfl ?_
    unfold red
    rw [e1, Nat.div_one, Nat.div_one]
    exact j
  · refine mm_iload_n dX6_multiply_32 rfl 2 rfl ?_
    refine mm_iload dX6_multiply_33 0 rfl ?_
    refine mn_idiv dX6_multiply_35 (by omega) (by omega) (by omega) ?_
    refine mm_istore_n (L' := [(3, .int (nI (((up) * (u)) / (Nat.gcd (up * u) (dn * d))))), (5, .int (nI (Nat.gcd (up * u) (dn * d)))), (4, .int (nI ((dn) * (d)))), (0, .ref (o + r)), (1, .int (nI (u))), (2, .int (nI (d)))]) dX6_multiply_36 rfl (by decide) rfl ?_
    refine mm_iload dX6_multiply_37 2 rfl ?_
    refine mm_iload dX6_multiply_39 1 rfl ?_
    refine mn_idiv dX6_multiply_41 (by omega) (by omega) (by omega) ?_
    refine mm_istore (L' := [(4, .int (nI (((dn) * (d)) / (Nat.gcd (up * u) (dn * d))))), (3, .int (nI (((up) * (u)) / (Nat.gcd (up * u) (dn * d))))), (5, .int (nI (Nat.gcd (up * u) (dn * d)))), (0, .ref (o + r)), (1, .int (nI (u))), (2, .int (nI (d)))]) dX6_multiply_42 (by decide) rfl ?_
    refine mn_sub [0, 1, 3, 4, 5] rfl ?_
    exact j44
theorem LL_sm : ∀ m, m < 1001 → (LL_ * 2520) % m = 0 → LL_ % m = 0 := by decide +kernel
theorem LL_up {up u x : Nat} (h : up ∣ LL_) (hu : 0 < u ∧ u ≤ 9) (hx : x ∣ up * u) (hx1 : x ≤ 1000) : x ∣ LL_ := by
  have h1 : u ∣ 2520 := by
    have : ∀ u, 0 < u ∧ u ≤ 9 → 2520 % u = 0 := fun u hu => by
      have : u = 1 ∨ u = 2 ∨ u = 3 ∨ u = 4 ∨ u = 5 ∨ u = 6 ∨ u = 7 ∨ u = 8 ∨ u = 9 := by omega
      rcases this with rfl | rfl | rfl | rfl | rfl | rfl | rfl | rfl | rfl <;> rfl
    exact Nat.dvd_of_mod_eq_zero (this u hu)
  have h2 : x ∣ LL_ * 2520 := Nat.dvd_trans hx (Nat.mul_dvd_mul h h1)
  exact Nat.dvd_of_mod_eq_zero (LL_sm x (by omega) (Nat.mod_eq_zero_of_dvd h2))
theorem red_pos1 {x y : Nat} (h : 0 < x) : 0 < (red x y).1 := Nat.div_pos (Nat.gcd_le_left _ h) (Nat.gcd_pos_of_pos_left _ h)
theorem prop_ok {up dn u d : Nat} (hu : 0 < up ∧ up ≤ 1000 ∧ up ∣ LL_) (hd : 0 < dn ∧ dn ≤ 1000) (hu9 : 0 < u ∧ u ≤ 9) (hd9 : 0 < d ∧ d ≤ 9) (h : ¬ (1000 < (red (up * u) (dn * d)).1 ∨ 1000 < (red (up * u) (dn * d)).2)) : (0 < (red (up * u) (dn * d)).1 ∧ (red (up * u) (dn * d)).1 ≤ 1000 ∧ (red (up * u) (dn * d)).1 ∣ LL_) ∧ (0 < (red (up * u) (dn * d)).2 ∧ (red (up * u) (dn * d)).2 ≤ 1000) :=
  ⟨⟨red_pos1 (Nat.mul_pos hu.1 hu9.1), by omega, LL_up hu.2.2 hu9 red_dvd1 (by omega)⟩, red_pos (Nat.mul_pos hd.1 hd9.1), by omega⟩
set_option maxRecDepth 100000 in
set_option maxHeartbeats 4000000 in
theorem cM_proportion {l : Launch} {D : va_G} {aa : Nat → ClassId} {b0 : Nat} {h : mm_H} {o : Nat} {X : Nat → Nat → Int32} {Y : Nat → Nat → Int64} {rl : Option Nat} {s : aS} {ST : Nat → Bool} {n : Nat} {u d : Nat} (ha : cm_at o X Y rl h) (hW : WF s) (hI : CI s ST X Y rl) (hn : n < aNv s) (hu9 : 0 < u ∧ u ≤ 9) (hd9 : 0 < d ∧ d ≤ 9) (hgood : ¬ (1000 < (red (aUp s n * u) (aDn s n * d)).1 ∨ 1000 < (red (aUp s n * u) (aDn s n * d)).2)) : mm_V (zz_K l D aa b0) 2 yX11_proportion cX11_proportion 5 (some .int) 0 [(0, .ref (o + 0)), (1, .int (nI (n))), (2, .int (nI (u))), (3, .int (nI (d)))] [] h 0 0 (fun rv h' => rv = some (.int (nI 1)) ∧ ∃ X' : Nat → Nat → Int32, cm_at o X' Y rl h' ∧ cm_fr o h h' ∧ CI (aProp s n (red (aUp s n * u) (aDn s n * d)).1 (red (aUp s n * u) (aDn s n * d)).2) (ST) X' Y rl) := by
  have hf := cm_fr.rf (o := o) (h := h)
  have hn6 : n < 6 := by have := hW.1.1; omega
  have hva : vA (61 + 10 * n) := Or.inr ⟨n, hn6, rfl⟩
  have hvok := hW.2.1 n hn6
  have hrk := vok_rk hvok
  have hd0 := hvok.2.2.2.2.1
  have hsz24 : aSz s n ≤ 24 := hvok.1.2
  have hL := rD_len hrk
  obtain ⟨hvs, hvw, hr2, hvst, -⟩ := hI.2.1 n hn6
  have hvs := hvs hn
  obtain ⟨hua, hda⟩ := hvok.2.2.1 hn
  have hup := hr2.1.1
  have hdn := hr2.1.2
  rw [if_pos hn] at hup hdn
  refine mm_aload_n dX11_proportion_0 rfl 0 rfl ?_
  refine mm_iload_n dX11_proportion_1 rfl 1 rfl ?_
  refine cm_callVr (As := [.int (nI (n))]) (rest := []) (d2 := 0) dX11_proportion_2 ha (by decide) rfl zz_clX11 zc_X11_55 zs_X11_voiceAt rfl rfl (Nat.le_of_ble_eq_true rfl) (Nat.le_of_ble_eq_true rfl) (by decide) (cM_voiceAt ha hI.1.1 hW.1.1 hn) ?_
  refine mm_astore (L' := [(4, .ref (o + (61 + 10 * n))), (0, .ref (o + 0)), (1, .int (nI (n))), (2, .int (nI (u))), (3, .int (nI (d)))]) dX11_proportion_5 (by decide) rfl ?_
  refine mm_aload dX11_proportion_7 0 rfl ?_
  refine mm_ifnull dX11_proportion_9 ?_
  refine mm_iload_n dX11_proportion_12 rfl 3 rfl ?_
  refine mm_iconst (v := nI 1) dX11_proportion_13 (by decide) ?_
  refine mn_icmp_lt (tgt := 34) dX11_proportion_14 (by decide) (by omega) (by omega) (fun c14 => ?_) (fun c14 => ?_)
  · omega
  · refine mm_iload_n dX11_proportion_17 rfl 3 rfl ?_
    refine mm_bipush (v := nI 9) dX11_proportion_18 (by decide) ?_
    refine mn_icmp_gt (tgt := 34) dX11_proportion_20 (by decide) (by omega) (by omega) (fun c20 => ?_) (fun c20 => ?_)
    · omega
    · refine mm_iload_n dX11_proportion_23 rfl 4 rfl ?_
      refine mm_iconst (v := nI 1) dX11_proportion_24 (by decide) ?_
      refine mn_icmp_lt (tgt := 34) dX11_proportion_25 (by decide) (by omega) (by omega) (fun c25 => ?_) (fun c25 => ?_)
      · omega
      · refine mm_iload_n dX11_proportion_28 rfl 4 rfl ?_
        refine mm_bipush (v := nI 9) dX11_proportion_29 (by decide) ?_
        refine mn_icmp_le (tgt := 37) dX11_proportion_31 (by decide) (by omega) (by omega) (fun c31 => ?_) (fun c31 => ?_)
        · refine mm_aload dX11_proportion_37 0 rfl ?_
          refine cm_getR (b := 61 + 10 * n + 3) dX11_proportion_39 ha zr_X11_70 (vA_lt hva 0 (by decide)) (vA_0 hva) rfl rfl ?_
          refine mm_iload_n dX11_proportion_42 rfl 3 rfl ?_
          refine mm_iload_n dX11_proportion_43 rfl 4 rfl ?_
          refine cm_callV (As := [.int (nI (u)), .int (nI (d))]) (rest := []) (d2 := 1) dX11_proportion_44 ha (vA_lt hva 3 (by decide)) (vA_3 hva) zz_clX6 zc_X11_102 zs_X6_multiply rfl rfl (Nat.le_of_ble_eq_true rfl) (Nat.le_of_ble_eq_true rfl) (by decide) (cr_multiply ha (vr_A hva) hup hdn ⟨hua.1, hua.2.1⟩ hda (by omega) hd9) (fun r h1 hq => ?_)
          rcases hq with ⟨hb, rfl, rfl⟩ | ⟨hb, rfl, ha, hf'⟩
          · exact absurd hb hgood
          · have hf := hf.tr hf'
            refine mn_if_eq (tgt := 54) dX11_proportion_47 (by decide) (by omega) (fun c47 => ?_) (fun c47 => ?_)
            · omega
            · refine mm_iconst (v := nI 1) dX11_proportion_50 (by decide) ?_
              refine mm_goto (tgt := 56) dX11_proportion_51 (by decide) ?_
              exact mm_iret dX11_proportion_56 rfl (⟨rfl, _, ha, hf, CI_prop hW hI hn ((xu_i (by decide)).trans xu_s) xu_s (fun b i n1 => by rw [xu_z (by omega), xu_z (by omega)])⟩)
        · omega
set_option maxRecDepth 100000 in
set_option maxHeartbeats 4000000 in
theorem cM_proportionF {l : Launch} {D : va_G} {aa : Nat → ClassId} {b0 : Nat} {h : mm_H} {o : Nat} {X : Nat → Nat → Int32} {Y : Nat → Nat → Int64} {rl : Option Nat} {s : aS} {ST : Nat → Bool} {n : Nat} {u d : Nat} (ha : cm_at o X Y rl h) (hW : WF s) (hI : CI s ST X Y rl) (hn : n < aNv s) (hu9 : 0 < u ∧ u ≤ 9) (hd9 : 0 < d ∧ d ≤ 9) (hgood : 1000 < (red (aUp s n * u) (aDn s n * d)).1 ∨ 1000 < (red (aUp s n * u) (aDn s n * d)).2) : mm_V (zz_K l D aa b0) 2 yX11_proportion cX11_proportion 5 (some .int) 0 [(0, .ref (o + 0)), (1, .int (nI (n))), (2, .int (nI (u))), (3, .int (nI (d)))] [] h 0 0 (fun rv h' => h' = h ∧ rv = some (.int (-3))) := by
  have hf := cm_fr.rf (o := o) (h := h)
  have hn6 : n < 6 := by have := hW.1.1; omega
  have hva : vA (61 + 10 * n) := Or.inr ⟨n, hn6, rfl⟩
  have hvok := hW.2.1 n hn6
  have hrk := vok_rk hvok
  have hd0 := hvok.2.2.2.2.1
  have hsz24 : aSz s n ≤ 24 := hvok.1.2
  have hL := rD_len hrk
  obtain ⟨hvs, hvw, hr2, hvst, -⟩ := hI.2.1 n hn6
  have hvs := hvs hn
  obtain ⟨hua, hda⟩ := hvok.2.2.1 hn
  have hup := hr2.1.1
  have hdn := hr2.1.2
  rw [if_pos hn] at hup hdn
  refine mm_aload_n dX11_proportion_0 rfl 0 rfl ?_
  refine mm_iload_n dX11_proportion_1 rfl 1 rfl ?_
  refine cm_callVr (As := [.int (nI (n))]) (rest := []) (d2 := 0) dX11_proportion_2 ha (by decide) rfl zz_clX11 zc_X11_55 zs_X11_voiceAt rfl rfl (Nat.le_of_ble_eq_true rfl) (Nat.le_of_ble_eq_true rfl) (by decide) (cM_voiceAt ha hI.1.1 hW.1.1 hn) ?_
  refine mm_astore (L' := [(4, .ref (o + (61 + 10 * n))), (0, .ref (o + 0)), (1, .int (nI (n))), (2, .int (nI (u))), (3, .int (nI (d)))]) dX11_proportion_5 (by decide) rfl ?_
  refine mm_aload dX11_proportion_7 0 rfl ?_
  refine mm_ifnull dX11_proportion_9 ?_
  refine mm_iload_n dX11_proportion_12 rfl 3 rfl ?_
  refine mm_iconst (v := nI 1) dX11_proportion_13 (by decide) ?_
  refine mn_icmp_lt (tgt := 34) dX11_proportion_14 (by decide) (by omega) (by omega) (fun c14 => ?_) (fun c14 => ?_)
  · omega
  · refine mm_iload_n dX11_proportion_17 rfl 3 rfl ?_
    refine mm_bipush (v := nI 9) dX11_proportion_18 (by decide) ?_
    refine mn_icmp_gt (tgt := 34) dX11_proportion_20 (by decide) (by omega) (by omega) (fun c20 => ?_) (fun c20 => ?_)
    · omega
    · refine mm_iload_n dX11_proportion_23 rfl 4 rfl ?_
      refine mm_iconst (v := nI 1) dX11_proportion_24 (by decide) ?_
      refine mn_icmp_lt (tgt := 34) dX11_proportion_25 (by decide) (by omega) (by omega) (fun c25 => ?_) (fun c25 => ?_)
      · omega
      · refine mm_iload_n dX11_proportion_28 rfl 4 rfl ?_
        refine mm_bipush (v := nI 9) dX11_proportion_29 (by decide) ?_
        refine mn_icmp_le (tgt := 37) dX11_proportion_31 (by decide) (by omega) (by omega) (fun c31 => ?_) (fun c31 => ?_)
        · refine mm_aload dX11_proportion_37 0 rfl ?_
          refine cm_getR (b := 61 + 10 * n + 3) dX11_proportion_39 ha zr_X11_70 (vA_lt hva 0 (by decide)) (vA_0 hva) rfl rfl ?_
          refine mm_iload_n dX11_proportion_42 rfl 3 rfl ?_
          refine mm_iload_n dX11_proportion_43 rfl 4 rfl ?_
          refine cm_callV (As := [.int (nI (u)), .int (nI (d))]) (rest := []) (d2 := 1) dX11_proportion_44 ha (vA_lt hva 3 (by decide)) (vA_3 hva) zz_clX6 zc_X11_102 zs_X6_multiply rfl rfl (Nat.le_of_ble_eq_true rfl) (Nat.le_of_ble_eq_true rfl) (by decide) (cr_multiply ha (vr_A hva) hup hdn ⟨hua.1, hua.2.1⟩ hda (by omega) hd9) (fun r h1 hq => ?_)
          rcases hq with ⟨hb, rfl, rfl⟩ | ⟨hb, rfl, ha, hf'⟩
          · refine mn_if_eq (tgt := 54) dX11_proportion_47 (by decide) (by omega) (fun c47 => ?_) (fun c47 => ?_)
            · refine mm_bipush (v := (-3)) dX11_proportion_54 (by decide) ?_
              exact mm_iret dX11_proportion_56 rfl (⟨rfl, rfl⟩)
            · exact absurd rfl c47
          · exact absurd hgood hb
        · omega
set_option maxRecDepth 100000 in
set_option maxHeartbeats 4000000 in
theorem cM_proportionB {l : Launch} {D : va_G} {aa : Nat → ClassId} {b0 : Nat} {h : mm_H} {o : Nat} {X : Nat → Nat → Int32} {Y : Nat → Nat → Int64} {rl : Option Nat} {s : aS} {ST : Nat → Bool} {n : Nat} {u d : Int32} (ha : cm_at o X Y rl h) (hW : WF s) (hI : CI s ST X Y rl) (hn : n < aNv s) (hb : ¬ (nI 1 ≤ u ∧ u ≤ nI 9 ∧ nI 1 ≤ d ∧ d ≤ nI 9)) : mm_V (zz_K l D aa b0) 2 yX11_proportion cX11_proportion 5 (some .int) 0 [(0, .ref (o + 0)), (1, .int (nI (n))), (2, .int (u)), (3, .int (d))] [] h 0 0 (fun rv h' => h' = h ∧ rv = some (.int (-2))) := by
  have hf := cm_fr.rf (o := o) (h := h)
  have hn6 : n < 6 := by have := hW.1.1; omega
  have hva : vA (61 + 10 * n) := Or.inr ⟨n, hn6, rfl⟩
  have hvok := hW.2.1 n hn6
  have hrk := vok_rk hvok
  have hd0 := hvok.2.2.2.2.1
  have hsz24 : aSz s n ≤ 24 := hvok.1.2
  have hL := rD_len hrk
  obtain ⟨hvs, hvw, hr2, hvst, -⟩ := hI.2.1 n hn6
  have hvs := hvs hn
  refine mm_aload_n dX11_proportion_0 rfl 0 rfl ?_
  refine mm_iload_n dX11_proportion_1 rfl 1 rfl ?_
  refine cm_callVr (As := [.int (nI (n))]) (rest := []) (d2 := 0) dX11_proportion_2 ha (by decide) rfl zz_clX11 zc_X11_55 zs_X11_voiceAt rfl rfl (Nat.le_of_ble_eq_true rfl) (Nat.le_of_ble_eq_true rfl) (by decide) (cM_voiceAt ha hI.1.1 hW.1.1 hn) ?_
  refine mm_astore (L' := [(4, .ref (o + (61 + 10 * n))), (0, .ref (o + 0)), (1, .int (nI (n))), (2, .int (u)), (3, .int (d))]) dX11_proportion_5 (by decide) rfl ?_
  refine mm_aload dX11_proportion_7 0 rfl ?_
  refine mm_ifnull dX11_proportion_9 ?_
  refine mm_iload_n dX11_proportion_12 rfl 3 rfl ?_
  refine mm_iconst (v := nI 1) dX11_proportion_13 (by decide) ?_
  refine mm_icmp_lt (tgt := 34) dX11_proportion_14 (by decide) (fun c14 => ?_) (fun c14 => ?_)
  · refine mm_bipush (v := (-2)) dX11_proportion_34 (by decide) ?_
    exact mm_iret dX11_proportion_36 rfl (⟨rfl, rfl⟩)
  · refine mm_iload_n dX11_proportion_17 rfl 3 rfl ?_
    refine mm_bipush (v := nI 9) dX11_proportion_18 (by decide) ?_
    refine mm_icmp_gt (tgt := 34) dX11_proportion_20 (by decide) (fun c20 => ?_) (fun c20 => ?_)
    · refine mm_bipush (v := (-2)) dX11_proportion_34 (by decide) ?_
      exact mm_iret dX11_proportion_36 rfl (⟨rfl, rfl⟩)
    · refine mm_iload_n dX11_proportion_23 rfl 4 rfl ?_
      refine mm_iconst (v := nI 1) dX11_proportion_24 (by decide) ?_
      refine mm_icmp_lt (tgt := 34) dX11_proportion_25 (by decide) (fun c25 => ?_) (fun c25 => ?_)
      · refine mm_bipush (v := (-2)) dX11_proportion_34 (by decide) ?_
        exact mm_iret dX11_proportion_36 rfl (⟨rfl, rfl⟩)
      · refine mm_iload_n dX11_proportion_28 rfl 4 rfl ?_
        refine mm_bipush (v := nI 9) dX11_proportion_29 (by decide) ?_
        refine mm_icmp_le (tgt := 37) dX11_proportion_31 (by decide) (fun c31 => ?_) (fun c31 => ?_)
        · exact False.elim (hb ⟨i32_nlt c14, i32_nlt c20, i32_nlt c25, c31⟩)
        · refine mm_bipush (v := (-2)) dX11_proportion_34 (by decide) ?_
          exact mm_iret dX11_proportion_36 rfl (⟨rfl, rfl⟩)
