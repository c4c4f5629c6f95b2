/-! the law's loop -/
section LWL
variable {p : Program} {l : Launch} {e : Env} {s : State} {m : MethodId} {below : List Frame} {meth : Method} {c : Code} {b Ln : Nat} {xs : Nat → Int32} {D : va_G} {aa : Nat → ClassId}
theorem an_31 (x : Int32) : ∃ n, n < 32 ∧ x &&& nI 31 = nI n := by
  refine ⟨(x &&& nI 31).toBitVec.toNat, ?_, ?_⟩
  · have e1 : (x &&& nI 31).toBitVec = x.toBitVec &&& (nI 31).toBitVec := rfl
    have e2 : (nI 31).toBitVec.toNat = 31 := by decide
    rw [e1, BitVec.toNat_and, e2]
    exact Nat.lt_succ_of_le Nat.and_le_right
  · apply Int32.toBitVec_inj.1
    show (x &&& nI 31).toBitVec = BitVec.ofNat 32 ((x &&& nI 31).toBitVec.toNat)
    rw [BitVec.ofNat_toNat, BitVec.setWidth_eq]
theorem sb_6 {n : Nat} (h : n ≤ 3072) : (Int32.ofNat n - nI 6).toInt = (n : Int) - 6 := by
  have e : Int32.ofNat n - nI 6 = Int32.ofInt ((n : Int) - 6) := by rw [Int32.ofInt_sub]; rfl
  rw [e, Int32.toInt_ofInt]
  exact Int.bmod_eq_of_le (by show -(4294967296 / 2) ≤ (n : Int) - 6; omega) (by show (n : Int) - 6 < (4294967296 + 1) / 2; omega)
theorem lw_loop (C : lw_X l D aa p s m meth c b Ln xs) : ∀ (n i : Nat), Ln ≤ i + n → i ≤ Ln → lw_go p l e s m below meth c b D aa 18 i := by
  intro n
  have C0 := C.1
  have hbA := lw_out C
  have hL := C.2.2.2.2
  induction n with
  | zero =>
    intro i hn hiL t h H locs ls hinv hR hS hl
    refine lv_iload_n C0.1 C0.2.1 dL_law_18 rfl (lv_at hl 3 rfl) ?_
    refine lv_aload_n C0.1 C0.2.1 dL_law_19 rfl (lv_at hl 0 rfl) ?_
    refine va_slen C0.1 C0.2.1 C0.2.2.2.2.2.2.1 C0.2.2.2.2.2.2.2.1 hbA hS dL_law_20 ?_
    refine lv_bipush (v := nI 6) C0.1 C0.2.1 dL_law_21 (by decide) ?_
    refine lv_isub C0.1 C0.2.1 dL_law_23 ?_
    refine lv_icmp_gt C0.1 C0.2.1 (tgt := 1070) dL_law_24 (by decide) (fun _ => ?_) (fun hk => ?_)
    · refine va_forget (fun q hq => hS.2.2 q hq) ?_
      refine lv_iconst (v := 1) C0.1 C0.2.1 dL_law_1070 (by decide) ?_
      exact lw_ret C0.1 C0.2.1 C0.2.2.1 C0.2.2.2.2.2.2.2.2.1 dL_law_1071
    · have hi6 : i + 6 ≤ Ln := by
        have h1 : ¬ (Int32.ofNat Ln - nI 6).toInt < (nI i).toInt := fun z => hk (Int32.lt_iff_toInt_lt.mpr z)
        rw [sb_6 hL, nI_toInt (by omega)] at h1
        omega
      omega
  | succ n ih =>
    intro i hn hiL t h H locs ls hinv hR hS hl
    refine lv_iload_n C0.1 C0.2.1 dL_law_18 rfl (lv_at hl 3 rfl) ?_
    refine lv_aload_n C0.1 C0.2.1 dL_law_19 rfl (lv_at hl 0 rfl) ?_
    refine va_slen C0.1 C0.2.1 C0.2.2.2.2.2.2.1 C0.2.2.2.2.2.2.2.1 hbA hS dL_law_20 ?_
    refine lv_bipush (v := nI 6) C0.1 C0.2.1 dL_law_21 (by decide) ?_
    refine lv_isub C0.1 C0.2.1 dL_law_23 ?_
    refine lv_icmp_gt C0.1 C0.2.1 (tgt := 1070) dL_law_24 (by decide) (fun _ => ?_) (fun hk => ?_)
    · refine va_forget (fun q hq => hS.2.2 q hq) ?_
      refine lv_iconst (v := 1) C0.1 C0.2.1 dL_law_1070 (by decide) ?_
      exact lw_ret C0.1 C0.2.1 C0.2.2.1 C0.2.2.2.2.2.2.2.2.1 dL_law_1071
    · have hi6 : i + 6 ≤ Ln := by
        have h1 : ¬ (Int32.ofNat Ln - nI 6).toInt < (nI i).toInt := fun z => hk (Int32.lt_iff_toInt_lt.mpr z)
        rw [sb_6 hL, nI_toInt (by omega)] at h1
        omega
      have K : lw_go p l e s m below meth c b D aa 1064 i := by
        intro t h H locs ls hinv hR hS hl
        refine lv_iinc (k := 3) (v := nI (i + 6)) C0.1 C0.2.1 dL_law_1064 hl rfl (Int32.ofNat_add i 6).symm (by decide) rfl (fun ls1 hl1 => ?_)
        refine lv_goto C0.1 C0.2.1 (tgt := 18) dL_law_1067 (by decide) ?_
        exact ih (i + 6) (by omega) hi6 t h H locs ls1 hinv hR hS (lv_sub hl1 [1, 2, 3, 0] rfl)
      refine lw_ld0 C hS (lv_at hl 0 rfl) (lv_at hl 3 rfl) (by omega) dL_law_27 dL_law_28 dL_law_29 ?_
      refine lv_bipush (v := nI 31) C0.1 C0.2.1 dL_law_30 (by decide) ?_
      refine lv_iand C0.1 C0.2.1 dL_law_32 ?_
      obtain ⟨q, hq, eq⟩ := an_31 (xs i)
      rw [eq]
      by_cases h24 : q < 24
      · rcases (show q = 0 ∨ q = 1 ∨ q = 2 ∨ q = 3 ∨ q = 4 ∨ q = 5 ∨ q = 6 ∨ q = 7 ∨ q = 8 ∨ q = 9 ∨ q = 10 ∨ q = 11 ∨ q = 12 ∨ q = 13 ∨ q = 14 ∨ q = 15 ∨ q = 16 ∨ q = 17 ∨ q = 18 ∨ q = 19 ∨ q = 20 ∨ q = 21 ∨ q = 22 ∨ q = 23 by omega) with rfl | rfl | rfl | rfl | rfl | rfl | rfl | rfl | rfl | rfl | rfl | rfl | rfl | rfl | rfl | rfl | rfl | rfl | rfl | rfl | rfl | rfl | rfl | rfl
        · refine lv_tableIn (off := 111) (tgt := 144) C0.1 C0.2.1 dL_law_33 (by decide) (by decide) (by decide) (by decide) ?_
          exact lw_c_voice C hi6 K t h H locs ls hinv hR hS hl
        · refine lv_tableIn (off := 134) (tgt := 167) C0.1 C0.2.1 dL_law_33 (by decide) (by decide) (by decide) (by decide) ?_
          exact lw_c_note C hi6 K t h H locs ls hinv hR hS hl
        · refine lv_tableIn (off := 203) (tgt := 236) C0.1 C0.2.1 dL_law_33 (by decide) (by decide) (by decide) (by decide) ?_
          exact lw_c_rest C hi6 K t h H locs ls hinv hR hS hl
        · refine lv_tableIn (off := 236) (tgt := 269) C0.1 C0.2.1 dL_law_33 (by decide) (by decide) (by decide) (by decide) ?_
          exact lw_c_dot C hi6 K t h H locs ls hinv hR hS hl
        · refine lv_tableIn (off := 259) (tgt := 292) C0.1 C0.2.1 dL_law_33 (by decide) (by decide) (by decide) (by decide) ?_
          exact lw_c_ligature C hi6 K t h H locs ls hinv hR hS hl
        · refine lv_tableIn (off := 342) (tgt := 375) C0.1 C0.2.1 dL_law_33 (by decide) (by decide) (by decide) (by decide) ?_
          exact lw_c_proportion C hi6 K t h H locs ls hinv hR hS hl
        · refine lv_tableIn (off := 385) (tgt := 418) C0.1 C0.2.1 dL_law_33 (by decide) (by decide) (by decide) (by decide) ?_
          exact lw_c_back C hi6 K t h H locs ls hinv hR hS hl
        · refine lv_tableIn (off := 408) (tgt := 441) C0.1 C0.2.1 dL_law_33 (by decide) (by decide) (by decide) (by decide) ?_
          exact lw_c_told C hi6 K t h H locs ls hinv hR hS hl
        · refine lv_tableIn (off := 441) (tgt := 474) C0.1 C0.2.1 dL_law_33 (by decide) (by decide) (by decide) (by decide) ?_
          exact lw_c_symbol C hi6 K t h H locs ls hinv hR hS hl
        · refine lv_tableIn (off := 484) (tgt := 517) C0.1 C0.2.1 dL_law_33 (by decide) (by decide) (by decide) (by decide) ?_
          exact lw_c_readings C hi6 K t h H locs ls hinv hR hS hl
        · refine lv_tableIn (off := 507) (tgt := 540) C0.1 C0.2.1 dL_law_33 (by decide) (by decide) (by decide) (by decide) ?_
          exact lw_c_stuck C hi6 K t h H locs ls hinv hR hS hl
        · refine lv_tableIn (off := 530) (tgt := 563) C0.1 C0.2.1 dL_law_33 (by decide) (by decide) (by decide) (by decide) ?_
          exact lw_c_strained C hi6 K t h H locs ls hinv hR hS hl
        · refine lv_tableIn (off := 563) (tgt := 596) C0.1 C0.2.1 dL_law_33 (by decide) (by decide) (by decide) (by decide) ?_
          exact lw_c_form C hi6 K t h H locs ls hinv hR hS hl
        · refine lv_tableIn (off := 606) (tgt := 639) C0.1 C0.2.1 dL_law_33 (by decide) (by decide) (by decide) (by decide) ?_
          exact lw_c_value C hi6 K t h H locs ls hinv hR hS hl
        · refine lv_tableIn (off := 649) (tgt := 682) C0.1 C0.2.1 dL_law_33 (by decide) (by decide) (by decide) (by decide) ?_
          exact lw_c_pick C hi6 K t h H locs ls hinv hR hS hl
        · refine lv_tableIn (off := 682) (tgt := 715) C0.1 C0.2.1 dL_law_33 (by decide) (by decide) (by decide) (by decide) ?_
          exact lw_c_time C hi6 K t h H locs ls hinv hR hS hl
        · refine lv_tableIn (off := 726) (tgt := 759) C0.1 C0.2.1 dL_law_33 (by decide) (by decide) (by decide) (by decide) ?_
          exact lw_c_at C hi6 K t h H locs ls hinv hR hS hl
        · refine lv_tableIn (off := 769) (tgt := 802) C0.1 C0.2.1 dL_law_33 (by decide) (by decide) (by decide) (by decide) ?_
          exact lw_c_together C hi6 K t h H locs ls hinv hR hS hl
        · refine lv_tableIn (off := 782) (tgt := 815) C0.1 C0.2.1 dL_law_33 (by decide) (by decide) (by decide) (by decide) ?_
          exact lw_c_meet C hi6 K t h H locs ls hinv hR hS hl
        · refine lv_tableIn (off := 825) (tgt := 858) C0.1 C0.2.1 dL_law_33 (by decide) (by decide) (by decide) (by decide) ?_
          exact lw_c_canon C hi6 K t h H locs ls hinv hR hS hl
        · refine lv_tableIn (off := 878) (tgt := 911) C0.1 C0.2.1 dL_law_33 (by decide) (by decide) (by decide) (by decide) ?_
          exact lw_c_follower C hi6 K t h H locs ls hinv hR hS hl
        · refine lv_tableIn (off := 922) (tgt := 955) C0.1 C0.2.1 dL_law_33 (by decide) (by decide) (by decide) (by decide) ?_
          exact lw_c_write C hi6 K t h H locs ls hinv hR hS hl
        · refine lv_tableIn (off := 985) (tgt := 1018) C0.1 C0.2.1 dL_law_33 (by decide) (by decide) (by decide) (by decide) ?_
          exact lw_c_written C hi6 K t h H locs ls hinv hR hS hl
        · refine lv_tableIn (off := 1008) (tgt := 1041) C0.1 C0.2.1 dL_law_33 (by decide) (by decide) (by decide) (by decide) ?_
          exact lw_c_count C hi6 K t h H locs ls hinv hR hS hl
      · refine lv_tableOut (tgt := 1064) C0.1 C0.2.1 dL_law_33 (Or.inr (by rw [nI_toInt (by omega)]; omega)) (by decide) ?_
        exact K t h H locs ls hinv hR hS hl
end LWL
