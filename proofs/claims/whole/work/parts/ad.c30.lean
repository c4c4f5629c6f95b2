/-! the class: voices that meet -/
def swt (p q : Int) : Bool := decide ((p - q).natAbs % 7 = 0) || (decide ((p - q).natAbs % 7 = 2) || (decide ((p - q).natAbs % 7 = 4) || decide ((p - q).natAbs % 7 = 5)))
theorem i32_abs {x : Int} (h : x.natAbs < 1000) : (if 0 ≤ Int32.ofInt x then Int32.ofInt x else 0 - Int32.ofInt x) = nI x.natAbs := by
  have hx : (Int32.ofInt x).toInt = x := by
    rw [Int32.toInt_ofInt]
    exact Int.bmod_eq_of_le (by show -(4294967296 / 2) ≤ x; omega) (by show x < (4294967296 + 1) / 2; omega)
  by_cases c : 0 ≤ Int32.ofInt x
  · rw [if_pos c]
    have h0 : 0 ≤ x := by
      have := Int32.le_iff_toInt_le.mp c
      rw [hx] at this
      exact this
    apply Int32.toInt_inj.mp
    rw [hx, nI_toInt (by omega)]
    omega
  · rw [if_neg c]
    have h0 : x < 0 := by
      have : ¬ (0 : Int32).toInt ≤ (Int32.ofInt x).toInt := fun z => c (Int32.le_iff_toInt_le.mpr z)
      rw [hx] at this
      have e : (0 : Int32).toInt = 0 := by decide
      omega
    have e : (0 : Int32) - Int32.ofInt x = Int32.ofInt (0 - x) := by rw [Int32.ofInt_sub]; rfl
    rw [e]
    have hx2 : (Int32.ofInt (0 - x)).toInt = 0 - x := by
      rw [Int32.toInt_ofInt]
      exact Int.bmod_eq_of_le (by show -(4294967296 / 2) ≤ 0 - x; omega) (by show 0 - x < (4294967296 + 1) / 2; omega)
    apply Int32.toInt_inj.mp
    rw [hx2, nI_toInt (by omega)]
    omega
/-- symbol i of voice a and symbol j of voice b meet -/
def mt1 (s : aS) (a b : Nat) (y z : gR) (w i j : Nat) : Bool := decide (aSo s (24 * a + i) = 1) && (decide (aSo s (24 * b + j) = 1) && (decide (aT s a y i = aT s b z j) && (decide (w = 0) || swt (aPi s (24 * a + i)) (aPi s (24 * b + j)))))
def mtJ (s : aS) (a b : Nat) (y z : gR) (w i : Nat) : Nat → Nat
  | 0 => 0
  | j + 1 => mtJ s a b y z w i j + Bool.toNat (mt1 s a b y z w i j)
def mtI (s : aS) (a b : Nat) (y z : gR) (w m : Nat) : Nat → Nat
  | 0 => 0
  | i + 1 => mtI s a b y z w m i + mtJ s a b y z w i m
theorem bt_le (b : Bool) : Bool.toNat b ≤ 1 := by cases b <;> decide
theorem mtJ_le {s : aS} {a b : Nat} {y z : gR} {w i : Nat} : ∀ j, mtJ s a b y z w i j ≤ j
  | 0 => Nat.le_refl _
  | j + 1 => Nat.add_le_add (mtJ_le j) (bt_le _)
theorem mtI_le {s : aS} {a b : Nat} {y z : gR} {w m : Nat} : ∀ i, mtI s a b y z w m i ≤ i * m
  | 0 => by show 0 ≤ _; omega
  | i + 1 => by
    have h1 := mtI_le (s := s) (a := a) (b := b) (y := y) (z := z) (w := w) (m := m) i
    have h2 := mtJ_le (s := s) (a := a) (b := b) (y := y) (z := z) (w := w) (i := i) m
    show mtI s a b y z w m i + mtJ s a b y z w i m ≤ (i + 1) * m
    rw [Nat.add_mul]
    omega
theorem sw_t {x z : Int} (h : (x - z).natAbs % 7 = 0 ∨ (x - z).natAbs % 7 = 2 ∨ (x - z).natAbs % 7 = 4 ∨ (x - z).natAbs % 7 = 5) : swt x z = true := by
  unfold swt
  rcases h with h | h | h | h <;> rw [h] <;> rfl
set_option maxRecDepth 100000 in
set_option maxHeartbeats 4000000 in
theorem ck_isSweet {l : Launch} {D : va_G} {aa : Nat → ClassId} {b0 : Nat} {h : mm_H} {x z : Int} (hx : -40 ≤ x ∧ x ≤ 40) (hz : -40 ≤ z ∧ z ≤ 40) : mm_V (zz_K l D aa b0) 1 yX11_isSweet cX11_isSweet 3 (some .boolean) 0 [(0, .int (Int32.ofInt x)), (1, .int (Int32.ofInt z))] [] h 0 0 (fun rv h' => h' = h ∧ rv = some (.int (nI (Bool.toNat (swt x z))))) := by
  refine mm_iload_n dX11_isSweet_0 rfl 0 rfl ?_
  refine mm_iload_n dX11_isSweet_1 rfl 1 rfl ?_
  refine mm_isub dX11_isSweet_2 ?_
  refine mn_top (u := .int (Int32.ofInt (x - z))) (congrArg Value.int ((Int32.ofInt_sub x z).symm)) ?_
  refine mm_mabs dX11_isSweet_3 zc_X11_245 (Nat.le_of_ble_eq_true rfl) ?_
  refine mn_top (u := .int (nI ((x - z).natAbs))) (congrArg Value.int (i32_abs (by omega))) ?_
  refine mm_bipush (v := nI 7) dX11_isSweet_6 (by decide) ?_
  refine mn_irem dX11_isSweet_8 (by omega) (by omega) (by omega) ?_
  refine mm_istore_n (L' := [(2, .int (nI (((x - z).natAbs) % (7)))), (0, .int (Int32.ofInt x)), (1, .int (Int32.ofInt z))]) dX11_isSweet_9 rfl (by decide) rfl ?_
  refine mm_iload_n dX11_isSweet_10 rfl 0 rfl ?_
  refine mn_if_eq (tgt := 29) dX11_isSweet_11 (by decide) (by omega) (fun c11 => ?_) (fun c11 => ?_)
  · refine mm_iconst (v := nI 1) dX11_isSweet_29 (by decide) ?_
    refine mm_goto (tgt := 34) dX11_isSweet_30 (by decide) ?_
    exact mm_zret dX11_isSweet_34 rfl (by decide) (⟨rfl, by rw [show swt x z = true from sw_t (by omega)]; rfl⟩)
  · refine mm_iload_n dX11_isSweet_14 rfl 0 rfl ?_
    refine mm_iconst (v := nI 2) dX11_isSweet_15 (by decide) ?_
    refine mn_icmp_eq (tgt := 29) dX11_isSweet_16 (by decide) (by omega) (by omega) (fun c16 => ?_) (fun c16 => ?_)
    · refine mm_iconst (v := nI 1) dX11_isSweet_29 (by decide) ?_
      refine mm_goto (tgt := 34) dX11_isSweet_30 (by decide) ?_
      exact mm_zret dX11_isSweet_34 rfl (by decide) (⟨rfl, by rw [show swt x z = true from sw_t (by omega)]; rfl⟩)
    · refine mm_iload_n dX11_isSweet_19 rfl 0 rfl ?_
      refine mm_iconst (v := nI 4) dX11_isSweet_20 (by decide) ?_
      refine mn_icmp_eq (tgt := 29) dX11_isSweet_21 (by decide) (by omega) (by omega) (fun c21 => ?_) (fun c21 => ?_)
      · refine mm_iconst (v := nI 1) dX11_isSweet_29 (by decide) ?_
        refine mm_goto (tgt := 34) dX11_isSweet_30 (by decide) ?_
        exact mm_zret dX11_isSweet_34 rfl (by decide) (⟨rfl, by rw [show swt x z = true from sw_t (by omega)]; rfl⟩)
      · refine mm_iload_n dX11_isSweet_24 rfl 0 rfl ?_
        refine mm_iconst (v := nI 5) dX11_isSweet_25 (by decide) ?_
        refine mn_icmp_ne (tgt := 33) dX11_isSweet_26 (by decide) (by omega) (by omega) (fun c26 => ?_) (fun c26 => ?_)
        · refine mm_iconst (v := nI 0) dX11_isSweet_33 (by decide) ?_
          exact mm_zret dX11_isSweet_34 rfl (by decide) (⟨rfl, by unfold swt; rw [decide_eq_false (by omega), decide_eq_false (by omega), decide_eq_false (by omega), decide_eq_false (by omega)]; rfl⟩)
        · refine mm_iconst (v := nI 1) dX11_isSweet_29 (by decide) ?_
          refine mm_goto (tgt := 34) dX11_isSweet_30 (by decide) ?_
          exact mm_zret dX11_isSweet_34 rfl (by decide) (⟨rfl, by rw [show swt x z = true from sw_t (by omega)]; rfl⟩)
set_option maxRecDepth 100000 in
set_option maxHeartbeats 4000000 in
theorem cM_beginTogether {l : Launch} {D : va_G} {aa : Nat → ClassId} {b0 : Nat} {h : mm_H} {o : Nat} {X : Nat → Nat → Int32} {Y : Nat → Nat → Int64} {rl : Option Nat} {n p m q i j so sq : Nat} {ti tj : Nat × Nat} (ha : cm_at o X Y rl h) (hva : vA (61 + 10 * n)) (hvaP : vA (61 + 10 * p)) (hsz : X (61 + 10 * n + 3) 6 = nI m) (hs24 : m ≤ 24) (hi : i < m) (hso : X (61 + 10 * n + 3 + 1) i = nI so) (hso3 : so ≤ 3) (hszP : X (61 + 10 * p + 3) 6 = nI q) (hs24P : q ≤ 24) (hj : j < q) (hsq : X (61 + 10 * p + 3 + 1) j = nI sq) (hsq3 : sq ≤ 3) (h51 : X 51 4 = nI m) (h56 : X 56 4 = nI q) (ht1 : Y (51 + 1) i = lN ti.1) (ht2 : Y (51 + 2) i = lN ti.2) (hu1 : Y (56 + 1) j = lN tj.1) (hu2 : Y (56 + 2) j = lN tj.2) (hti : ti.1 < 2 ^ 63 ∧ ti.2 < 2 ^ 63) (htj : tj.1 < 2 ^ 63 ∧ tj.2 < 2 ^ 63) : mm_V (zz_K l D aa b0) 1 yX11_beginTogether cX11_beginTogether 5 (some .boolean) 0 [(0, .ref (o + 0)), (1, .ref (o + (61 + 10 * n + 3))), (2, .int (nI (i))), (3, .ref (o + (61 + 10 * p + 3))), (4, .int (nI (j)))] [] h 0 0 (fun rv h' => h' = h ∧ rv = some (.int (nI (Bool.toNat (decide (so = 1) && (decide (sq = 1) && decide (ti = tj))))))) := by
  refine mm_aload_n dX11_beginTogether_0 rfl 1 rfl ?_
  refine mm_iload_n dX11_beginTogether_1 rfl 2 rfl ?_
  refine cm_callVr (As := [.int (nI (i))]) (rest := []) (d2 := 0) dX11_beginTogether_2 ha (vA_lt hva 3 (by decide)) (vA_3 hva) zz_clX6 zc_X11_79 zs_X6_sortAt rfl rfl (Nat.le_of_ble_eq_true rfl) (Nat.le_of_ble_eq_true rfl) (by decide) (cr_sortAt ha (vr_A hva) hsz hs24 (by omega)) ?_
  refine mn_top (u := .int (nI (so))) (congrArg Value.int ((if_pos hi).trans hso)) ?_
  refine mm_iconst (v := nI 1) dX11_beginTogether_5 (by decide) ?_
  refine mn_icmp_ne (tgt := 65) dX11_beginTogether_6 (by decide) (by omega) (by omega) (fun c6 => ?_) (fun c6 => ?_)
  · refine mm_iconst (v := nI 0) dX11_beginTogether_65 (by decide) ?_
    exact mm_zret dX11_beginTogether_66 rfl (by decide) (⟨rfl, by rw [decide_eq_false (show ¬ so = 1 by omega)]; rfl⟩)
  · refine mm_aload_n dX11_beginTogether_9 rfl 3 rfl ?_
    refine mm_iload dX11_beginTogether_10 4 rfl ?_
    refine cm_callVr (As := [.int (nI (j))]) (rest := []) (d2 := 0) dX11_beginTogether_12 ha (vA_lt hvaP 3 (by decide)) (vA_3 hvaP) zz_clX6 zc_X11_79 zs_X6_sortAt rfl rfl (Nat.le_of_ble_eq_true rfl) (Nat.le_of_ble_eq_true rfl) (by decide) (cr_sortAt ha (vr_A hvaP) hszP hs24P (by omega)) ?_
    refine mn_top (u := .int (nI (sq))) (congrArg Value.int ((if_pos hj).trans hsq)) ?_
    refine mm_iconst (v := nI 1) dX11_beginTogether_15 (by decide) ?_
    refine mn_icmp_ne (tgt := 65) dX11_beginTogether_16 (by decide) (by omega) (by omega) (fun c16 => ?_) (fun c16 => ?_)
    · refine mm_iconst (v := nI 0) dX11_beginTogether_65 (by decide) ?_
      exact mm_zret dX11_beginTogether_66 rfl (by decide) (⟨rfl, by rw [decide_eq_false (show ¬ sq = 1 by omega), Bool.false_and, Bool.and_false]; rfl⟩)
    · refine mm_aload_n dX11_beginTogether_19 rfl 0 rfl ?_
      refine cm_getR (b := 51) dX11_beginTogether_20 ha zr_X11_38 (by decide) rfl rfl rfl ?_
      refine mm_iload_n dX11_beginTogether_23 rfl 2 rfl ?_
      refine cm_callVr (As := [.int (nI (i))]) (rest := []) (d2 := 0) dX11_beginTogether_24 ha (by decide) rfl zz_clX8 zc_X11_188 zs_X8_upAt rfl rfl (Nat.le_of_ble_eq_true rfl) (Nat.le_of_ble_eq_true rfl) (by decide) (ct_upAt (a := 51) (n := m) ha (Or.inl rfl) h51 hs24 (by omega) ht1) ?_
      refine mm_aload_n dX11_beginTogether_27 rfl 0 rfl ?_
      refine cm_getR (b := 56) dX11_beginTogether_28 ha zr_X11_42 (by decide) rfl rfl rfl ?_
      refine mm_iload dX11_beginTogether_31 4 rfl ?_
      refine cm_callVr (As := [.int (nI (j))]) (rest := [.long (lN (ti.1))]) (d2 := 0) dX11_beginTogether_33 ha (by decide) rfl zz_clX8 zc_X11_188 zs_X8_upAt rfl rfl (Nat.le_of_ble_eq_true rfl) (Nat.le_of_ble_eq_true rfl) (by decide) (ct_upAt (a := 56) (n := q) ha (Or.inr rfl) h56 hs24P (by omega) hu1) ?_
      refine mn_lc_ne (tgt := 65) dX11_beginTogether_36 dX11_beginTogether_37 (by decide) (by omega) (by omega) (fun c36 => ?_) (fun c36 => ?_)
      · refine mm_iconst (v := nI 0) dX11_beginTogether_65 (by decide) ?_
        exact mm_zret dX11_beginTogether_66 rfl (by decide) (⟨rfl, by rw [decide_eq_false (show ¬ ti = tj from fun e => by rw [e] at c36; exact c36 rfl), Bool.and_false, Bool.and_false]; rfl⟩)
      · refine mm_aload_n dX11_beginTogether_40 rfl 0 rfl ?_
        refine cm_getR (b := 51) dX11_beginTogether_41 ha zr_X11_38 (by decide) rfl rfl rfl ?_
        refine mm_iload_n dX11_beginTogether_44 rfl 2 rfl ?_
        refine cm_callVr (As := [.int (nI (i))]) (rest := []) (d2 := 0) dX11_beginTogether_45 ha (by decide) rfl zz_clX8 zc_X11_192 zs_X8_downAt rfl rfl (Nat.le_of_ble_eq_true rfl) (Nat.le_of_ble_eq_true rfl) (by decide) (ct_downAt (a := 51) (n := m) ha (Or.inl rfl) h51 hs24 (by omega) ht2) ?_
        refine mm_aload_n dX11_beginTogether_48 rfl 0 rfl ?_
        refine cm_getR (b := 56) dX11_beginTogether_49 ha zr_X11_42 (by decide) rfl rfl rfl ?_
        refine mm_iload dX11_beginTogether_52 4 rfl ?_
        refine cm_callVr (As := [.int (nI (j))]) (rest := [.long (lN (ti.2))]) (d2 := 0) dX11_beginTogether_54 ha (by decide) rfl zz_clX8 zc_X11_192 zs_X8_downAt rfl rfl (Nat.le_of_ble_eq_true rfl) (Nat.le_of_ble_eq_true rfl) (by decide) (ct_downAt (a := 56) (n := q) ha (Or.inr rfl) h56 hs24P (by omega) hu2) ?_
        refine mn_lc_ne (tgt := 65) dX11_beginTogether_57 dX11_beginTogether_58 (by decide) (by omega) (by omega) (fun c57 => ?_) (fun c57 => ?_)
        · refine mm_iconst (v := nI 0) dX11_beginTogether_65 (by decide) ?_
          exact mm_zret dX11_beginTogether_66 rfl (by decide) (⟨rfl, by rw [decide_eq_false (show ¬ ti = tj from fun e => by rw [e] at c57; exact c57 rfl), Bool.and_false, Bool.and_false]; rfl⟩)
        · refine mm_iconst (v := nI 1) dX11_beginTogether_61 (by decide) ?_
          refine mm_goto (tgt := 66) dX11_beginTogether_62 (by decide) ?_
          exact mm_zret dX11_beginTogether_66 rfl (by decide) (⟨rfl, by rw [decide_eq_true (show so = 1 by omega), decide_eq_true (show sq = 1 by omega), decide_eq_true (show ti = tj from Prod.ext (by omega) (by omega))]; rfl⟩)
set_option maxRecDepth 100000 in
set_option maxHeartbeats 4000000 in
theorem cM_meetB1 {l : Launch} {D : va_G} {aa : Nat → ClassId} {b0 : Nat} {h : mm_H} {o : Nat} {X : Nat → Nat → Int32} {Y : Nat → Nat → Int64} {rl : Option Nat} {s : aS} {ST : Nat → Bool} {v u w : Int32} (ha : cm_at o X Y rl h) (hW : WF s) (hI : CI s ST X Y rl) (hv : v < 0 ∨ nI (aNv s) ≤ v) (hu : u < 0 ∨ nI (aNv s) ≤ u) : mm_V (zz_K l D aa b0) 1 yX11_meet cX11_meet 11 (some .int) 0 [(0, .ref (o + 0)), (1, .int (v)), (2, .int (u)), (3, .int (w))] [] h 0 0 (fun rv h' => h' = h ∧ rv = some (.int (-2))) := by
  refine mm_aload_n dX11_meet_0 rfl 0 rfl ?_
  refine mm_iload_n dX11_meet_1 rfl 1 rfl ?_
  refine cm_callVr (As := [.int (v)]) (rest := []) (d2 := 0) dX11_meet_2 ha (by decide) rfl zz_clX11 zc_X11_55 zs_X11_voiceAt rfl rfl (Nat.le_of_ble_eq_true rfl) (Nat.le_of_ble_eq_true rfl) (by decide) (cM_voiceAtN ha hI.1.1 hv) ?_
  refine mm_astoreN (L' := [(4, .null), (0, .ref (o + 0)), (1, .int (v)), (2, .int (u)), (3, .int (w))]) dX11_meet_5 (by decide) rfl ?_
  refine mm_aload_n dX11_meet_7 rfl 1 rfl ?_
  refine mm_iload_n dX11_meet_8 rfl 3 rfl ?_
  refine cm_callVr (As := [.int (u)]) (rest := []) (d2 := 0) dX11_meet_9 ha (by decide) rfl zz_clX11 zc_X11_55 zs_X11_voiceAt rfl rfl (Nat.le_of_ble_eq_true rfl) (Nat.le_of_ble_eq_true rfl) (by decide) (cM_voiceAtN ha hI.1.1 hu) ?_
  refine mm_astoreN (L' := [(5, .null), (4, .null), (0, .ref (o + 0)), (1, .int (v)), (2, .int (u)), (3, .int (w))]) dX11_meet_12 (by decide) rfl ?_
  refine mm_aloadN dX11_meet_14 1 rfl ?_
  refine mm_ifnullN (tgt := 33) dX11_meet_16 (by decide) ?_
  refine mm_bipush (v := (-2)) dX11_meet_33 (by decide) ?_
  exact mm_iret dX11_meet_35 rfl (⟨rfl, rfl⟩)
set_option maxRecDepth 100000 in
set_option maxHeartbeats 4000000 in
theorem cM_meetB2 {l : Launch} {D : va_G} {aa : Nat → ClassId} {b0 : Nat} {h : mm_H} {o : Nat} {X : Nat → Nat → Int32} {Y : Nat → Nat → Int64} {rl : Option Nat} {s : aS} {ST : Nat → Bool} {v w : Int32} {p : Nat} (ha : cm_at o X Y rl h) (hW : WF s) (hI : CI s ST X Y rl) (hv : v < 0 ∨ nI (aNv s) ≤ v) (hp : p < aNv s) : mm_V (zz_K l D aa b0) 1 yX11_meet cX11_meet 11 (some .int) 0 [(0, .ref (o + 0)), (1, .int (v)), (2, .int (nI (p))), (3, .int (w))] [] h 0 0 (fun rv h' => h' = h ∧ rv = some (.int (-2))) := by
  refine mm_aload_n dX11_meet_0 rfl 0 rfl ?_
  refine mm_iload_n dX11_meet_1 rfl 1 rfl ?_
  refine cm_callVr (As := [.int (v)]) (rest := []) (d2 := 0) dX11_meet_2 ha (by decide) rfl zz_clX11 zc_X11_55 zs_X11_voiceAt rfl rfl (Nat.le_of_ble_eq_true rfl) (Nat.le_of_ble_eq_true rfl) (by decide) (cM_voiceAtN ha hI.1.1 hv) ?_
  refine mm_astoreN (L' := [(4, .null), (0, .ref (o + 0)), (1, .int (v)), (2, .int (nI (p))), (3, .int (w))]) dX11_meet_5 (by decide) rfl ?_
  refine mm_aload_n dX11_meet_7 rfl 1 rfl ?_
  refine mm_iload_n dX11_meet_8 rfl 3 rfl ?_
  refine cm_callVr (As := [.int (nI (p))]) (rest := []) (d2 := 0) dX11_meet_9 ha (by decide) rfl zz_clX11 zc_X11_55 zs_X11_voiceAt rfl rfl (Nat.le_of_ble_eq_true rfl) (Nat.le_of_ble_eq_true rfl) (by decide) (cM_voiceAt ha hI.1.1 hW.1.1 hp) ?_
  refine mm_astore (L' := [(5, .ref (o + (61 + 10 * p))), (4, .null), (0, .ref (o + 0)), (1, .int (v)), (2, .int (nI (p))), (3, .int (w))]) dX11_meet_12 (by decide) rfl ?_
  refine mm_aloadN dX11_meet_14 1 rfl ?_
  refine mm_ifnullN (tgt := 33) dX11_meet_16 (by decide) ?_
  refine mm_bipush (v := (-2)) dX11_meet_33 (by decide) ?_
  exact mm_iret dX11_meet_35 rfl (⟨rfl, rfl⟩)
set_option maxRecDepth 100000 in
set_option maxHeartbeats 4000000 in
theorem cM_meetB3 {l : Launch} {D : va_G} {aa : Nat → ClassId} {b0 : Nat} {h : mm_H} {o : Nat} {X : Nat → Nat → Int32} {Y : Nat → Nat → Int64} {rl : Option Nat} {s : aS} {ST : Nat → Bool} {u w : Int32} {n : Nat} (ha : cm_at o X Y rl h) (hW : WF s) (hI : CI s ST X Y rl) (hn : n < aNv s) (hu : u < 0 ∨ nI (aNv s) ≤ u) : mm_V (zz_K l D aa b0) 1 yX11_meet cX11_meet 11 (some .int) 0 [(0, .ref (o + 0)), (1, .int (nI (n))), (2, .int (u)), (3, .int (w))] [] h 0 0 (fun rv h' => h' = h ∧ rv = some (.int (-2))) := by
  refine mm_aload_n dX11_meet_0 rfl 0 rfl ?_
  refine mm_iload_n dX11_meet_1 rfl 1 rfl ?_
  refine cm_callVr (As := [.int (nI (n))]) (rest := []) (d2 := 0) dX11_meet_2 ha (by decide) rfl zz_clX11 zc_X11_55 zs_X11_voiceAt rfl rfl (Nat.le_of_ble_eq_true rfl) (Nat.le_of_ble_eq_true rfl) (by decide) (cM_voiceAt ha hI.1.1 hW.1.1 hn) ?_
  refine mm_astore (L' := [(4, .ref (o + (61 + 10 * n))), (0, .ref (o + 0)), (1, .int (nI (n))), (2, .int (u)), (3, .int (w))]) dX11_meet_5 (by decide) rfl ?_
  refine mm_aload_n dX11_meet_7 rfl 1 rfl ?_
  refine mm_iload_n dX11_meet_8 rfl 3 rfl ?_
  refine cm_callVr (As := [.int (u)]) (rest := []) (d2 := 0) dX11_meet_9 ha (by decide) rfl zz_clX11 zc_X11_55 zs_X11_voiceAt rfl rfl (Nat.le_of_ble_eq_true rfl) (Nat.le_of_ble_eq_true rfl) (by decide) (cM_voiceAtN ha hI.1.1 hu) ?_
  refine mm_astoreN (L' := [(5, .null), (4, .ref (o + (61 + 10 * n))), (0, .ref (o + 0)), (1, .int (nI (n))), (2, .int (u)), (3, .int (w))]) dX11_meet_12 (by decide) rfl ?_
  refine mm_aload dX11_meet_14 1 rfl ?_
  refine mm_ifnull dX11_meet_16 ?_
  refine mm_aloadN dX11_meet_19 0 rfl ?_
  refine mm_ifnullN (tgt := 33) dX11_meet_21 (by decide) ?_
  refine mm_bipush (v := (-2)) dX11_meet_33 (by decide) ?_
  exact mm_iret dX11_meet_35 rfl (⟨rfl, rfl⟩)
set_option maxRecDepth 100000 in
set_option maxHeartbeats 4000000 in
theorem cM_meetB4 {l : Launch} {D : va_G} {aa : Nat → ClassId} {b0 : Nat} {h : mm_H} {o : Nat} {X : Nat → Nat → Int32} {Y : Nat → Nat → Int64} {rl : Option Nat} {s : aS} {ST : Nat → Bool} {w : Int32} {n p : Nat} (ha : cm_at o X Y rl h) (hW : WF s) (hI : CI s ST X Y rl) (hn : n < aNv s) (hp : p < aNv s) (hw : w < 0 ∨ nI 2 ≤ w) : mm_V (zz_K l D aa b0) 1 yX11_meet cX11_meet 11 (some .int) 0 [(0, .ref (o + 0)), (1, .int (nI (n))), (2, .int (nI (p))), (3, .int (w))] [] h 0 0 (fun rv h' => h' = h ∧ rv = some (.int (-2))) := by
  refine mm_aload_n dX11_meet_0 rfl 0 rfl ?_
  refine mm_iload_n dX11_meet_1 rfl 1 rfl ?_
  refine cm_callVr (As := [.int (nI (n))]) (rest := []) (d2 := 0) dX11_meet_2 ha (by decide) rfl zz_clX11 zc_X11_55 zs_X11_voiceAt rfl rfl (Nat.le_of_ble_eq_true rfl) (Nat.le_of_ble_eq_true rfl) (by decide) (cM_voiceAt ha hI.1.1 hW.1.1 hn) ?_
  refine mm_astore (L' := [(4, .ref (o + (61 + 10 * n))), (0, .ref (o + 0)), (1, .int (nI (n))), (2, .int (nI (p))), (3, .int (w))]) dX11_meet_5 (by decide) rfl ?_
  refine mm_aload_n dX11_meet_7 rfl 1 rfl ?_
  refine mm_iload_n dX11_meet_8 rfl 3 rfl ?_
  refine cm_callVr (As := [.int (nI (p))]) (rest := []) (d2 := 0) dX11_meet_9 ha (by decide) rfl zz_clX11 zc_X11_55 zs_X11_voiceAt rfl rfl (Nat.le_of_ble_eq_true rfl) (Nat.le_of_ble_eq_true rfl) (by decide) (cM_voiceAt ha hI.1.1 hW.1.1 hp) ?_
  refine mm_astore (L' := [(5, .ref (o + (61 + 10 * p))), (4, .ref (o + (61 + 10 * n))), (0, .ref (o + 0)), (1, .int (nI (n))), (2, .int (nI (p))), (3, .int (w))]) dX11_meet_12 (by decide) rfl ?_
  refine mm_aload dX11_meet_14 1 rfl ?_
  refine mm_ifnull dX11_meet_16 ?_
  refine mm_aload dX11_meet_19 0 rfl ?_
  refine mm_ifnull dX11_meet_21 ?_
  refine mm_iload_n dX11_meet_24 rfl 5 rfl ?_
  refine mm_if_lt (tgt := 33) dX11_meet_25 (by decide) (fun c25 => ?_) (fun c25 => ?_)
  · refine mm_bipush (v := (-2)) dX11_meet_33 (by decide) ?_
    exact mm_iret dX11_meet_35 rfl (⟨rfl, rfl⟩)
  · refine mm_iload_n dX11_meet_28 rfl 5 rfl ?_
    refine mm_iconst (v := nI 1) dX11_meet_29 (by decide) ?_
    refine mm_icmp_le (tgt := 36) dX11_meet_30 (by decide) (fun c30 => ?_) (fun c30 => ?_)
    · exact hw.elim (fun z => absurd z c25) (fun z => absurd z (i32_le1 c30))
    · refine mm_bipush (v := (-2)) dX11_meet_33 (by decide) ?_
      exact mm_iret dX11_meet_35 rfl (⟨rfl, rfl⟩)
theorem mt_f {s : aS} {a b : Nat} {y z : gR} {w i j : Nat} (h : (decide (aSo s (24 * a + i) = 1) && (decide (aSo s (24 * b + j) = 1) && decide (aT s a y i = aT s b z j))) = false) : mt1 s a b y z w i j = false := by
  unfold mt1
  cases h1 : decide (aSo s (24 * a + i) = 1) with
  | false => rfl
  | true =>
    cases h2 : decide (aSo s (24 * b + j) = 1) with
    | false => rfl
    | true =>
      rw [h1, h2] at h
      have h : decide (aT s a y i = aT s b z j) = false := h
      rw [h]
      rfl
theorem mt_t {s : aS} {a b : Nat} {y z : gR} {i j : Nat} (h : (decide (aSo s (24 * a + i) = 1) && (decide (aSo s (24 * b + j) = 1) && decide (aT s a y i = aT s b z j))) = true) : aSo s (24 * a + i) = 1 ∧ aSo s (24 * b + j) = 1 ∧ aT s a y i = aT s b z j := by
  rw [Bool.and_eq_true, Bool.and_eq_true, decide_eq_true_eq, decide_eq_true_eq, decide_eq_true_eq] at h
  exact h
set_option maxRecDepth 100000 in
set_option maxHeartbeats 4000000 in
theorem cM_meetM {l : Launch} {D : va_G} {aa : Nat → ClassId} {b0 : Nat} {h : mm_H} {o : Nat} {X : Nat → Nat → Int32} {Y : Nat → Nat → Int64} {rl : Option Nat} {s : aS} {ST : Nat → Bool} {n p w : Nat} (ha : cm_at o X Y rl h) (hW : WF s) (hI : CI s ST X Y rl) (hn : n < aNv s) (hp : p < aNv s) (hw : w < 2) (hm : 1000 < (aR s n).length ∨ 1000 < (aR s p).length) : mm_V (zz_K l D aa b0) 6 yX11_meet cX11_meet 11 (some .int) 0 [(0, .ref (o + 0)), (1, .int (nI (n))), (2, .int (nI (p))), (3, .int (nI (w)))] [] h 0 0 (fun rv h' => rv = some (.int (-4)) ∧ ∃ (X' : Nat → Nat → Int32) (Y' : Nat → Nat → Int64) (rl' : Option Nat) (ST' : Nat → Bool), cm_at o X' Y' rl' h' ∧ cm_fr o h h' ∧ CI s ST' X' Y' rl') := by
  have hf := cm_fr.rf (o := o) (h := h)
  have hn6 : n < 6 := by have := hW.1.1; omega
  have hva : vA (61 + 10 * n) := Or.inr ⟨n, hn6, rfl⟩
  have hvok := hW.2.1 n hn6
  have hsz24 : aSz s n ≤ 24 := hvok.1.2
  obtain ⟨hvs, hvw, hr2, hvst, -⟩ := hI.2.1 n hn6
  have hn6P : p < 6 := by have := hW.1.1; omega
  have hvaP : vA (61 + 10 * p) := Or.inr ⟨p, hn6P, rfl⟩
  have hvokP := hW.2.1 p hn6P
  have hsz24P : aSz s p ≤ 24 := hvokP.1.2
  obtain ⟨hvsP, hvwP, hr2P, hvstP, -⟩ := hI.2.1 p hn6P
  refine mm_aload_n dX11_meet_0 rfl 0 rfl ?_
  refine mm_iload_n dX11_meet_1 rfl 1 rfl ?_
  refine cm_callVr (As := [.int (nI (n))]) (rest := []) (d2 := 0) dX11_meet_2 ha (by decide) rfl zz_clX11 zc_X11_55 zs_X11_voiceAt rfl rfl (Nat.le_of_ble_eq_true rfl) (Nat.le_of_ble_eq_true rfl) (by decide) (cM_voiceAt ha hI.1.1 hW.1.1 hn) ?_
  refine mm_astore (L' := [(4, .ref (o + (61 + 10 * n))), (0, .ref (o + 0)), (1, .int (nI (n))), (2, .int (nI (p))), (3, .int (nI (w)))]) dX11_meet_5 (by decide) rfl ?_
  refine mm_aload_n dX11_meet_7 rfl 1 rfl ?_
  refine mm_iload_n dX11_meet_8 rfl 3 rfl ?_
  refine cm_callVr (As := [.int (nI (p))]) (rest := []) (d2 := 0) dX11_meet_9 ha (by decide) rfl zz_clX11 zc_X11_55 zs_X11_voiceAt rfl rfl (Nat.le_of_ble_eq_true rfl) (Nat.le_of_ble_eq_true rfl) (by decide) (cM_voiceAt ha hI.1.1 hW.1.1 hp) ?_
  refine mm_astore (L' := [(5, .ref (o + (61 + 10 * p))), (4, .ref (o + (61 + 10 * n))), (0, .ref (o + 0)), (1, .int (nI (n))), (2, .int (nI (p))), (3, .int (nI (w)))]) dX11_meet_12 (by decide) rfl ?_
  refine mm_aload dX11_meet_14 1 rfl ?_
  refine mm_ifnull dX11_meet_16 ?_
  refine mm_aload dX11_meet_19 0 rfl ?_
  refine mm_ifnull dX11_meet_21 ?_
  refine mm_iload_n dX11_meet_24 rfl 5 rfl ?_
  refine mn_if_lt (tgt := 33) dX11_meet_25 (by decide) (by omega) ?_
  refine mm_iload_n dX11_meet_28 rfl 5 rfl ?_
  refine mm_iconst (v := nI 1) dX11_meet_29 (by decide) ?_
  refine mn_icmp_le (tgt := 36) dX11_meet_30 (by decide) (by omega) (by omega) (fun c30 => ?_) (fun c30 => ?_)
  · refine mm_aload_n dX11_meet_36 rfl 2 rfl ?_
    refine mm_aload dX11_meet_37 1 rfl ?_
    refine mm_aload dX11_meet_39 1 rfl ?_
    refine cm_getI dX11_meet_41 ha zr_X11_121 (vA_lt hva 0 (by decide)) (vA_0 hva) rfl ?_
    refine mn_top (u := .int (nI (aPk s n))) (congrArg Value.int ((hvst.1.1))) ?_
    refine cm_callV (As := [.ref (o + (61 + 10 * n)), .int (nI (aPk s n))]) (rest := []) (d2 := 5) dX11_meet_44 ha (by decide) rfl zz_clX11 zc_X11_154 zs_X11_refusalOf rfl rfl (Nat.le_of_ble_eq_true rfl) (Nat.le_of_ble_eq_true rfl) (by decide) (cM_refusalOf ha hW hI hn) (fun r h1 hq => ?_)
    obtain ⟨rfl, X1, Y1, rl1, ST1, ha, hf', hI1, hST, hmo, -⟩ := hq
    have hf := hf.tr hf'
    have hpkP := (hI1.2.1 p hn6P).2.2.2.1.1.1
    rw [pf_rf hvok.2.2.2.2.2.2]
    refine mm_istore (L' := [(6, .int (pfA (aR s n).length)), (5, .ref (o + (61 + 10 * p))), (4, .ref (o + (61 + 10 * n))), (0, .ref (o + 0)), (1, .int (nI (n))), (2, .int (nI (p))), (3, .int (nI (w)))]) dX11_meet_47 (by decide) rfl ?_
    refine mm_aload_n dX11_meet_49 rfl 3 rfl ?_
    refine mm_aload dX11_meet_50 1 rfl ?_
    refine mm_aload dX11_meet_52 1 rfl ?_
    refine cm_getI dX11_meet_54 ha zr_X11_121 (vA_lt hvaP 0 (by decide)) (vA_0 hvaP) rfl ?_
    refine mn_top (u := .int (nI (aPk s p))) (congrArg Value.int ((hpkP))) ?_
    refine cm_callV (As := [.ref (o + (61 + 10 * p)), .int (nI (aPk s p))]) (rest := []) (d2 := 5) dX11_meet_57 ha (by decide) rfl zz_clX11 zc_X11_154 zs_X11_refusalOf rfl rfl (Nat.le_of_ble_eq_true rfl) (Nat.le_of_ble_eq_true rfl) (by decide) (cM_refusalOf ha hW hI1 hp) (fun r h1 hq => ?_)
    obtain ⟨rfl, X2, Y2, rl2, ST2, ha, hf', hI2, hSTP, hmo2, -⟩ := hq
    have hf := hf.tr hf'
    rw [pf_rf hvokP.2.2.2.2.2.2]
    have hSTn := hmo2 n hST
    refine mm_istore (L' := [(7, .int (pfA (aR s p).length)), (6, .int (pfA (aR s n).length)), (5, .ref (o + (61 + 10 * p))), (4, .ref (o + (61 + 10 * n))), (0, .ref (o + 0)), (1, .int (nI (n))), (2, .int (nI (p))), (3, .int (nI (w)))]) dX11_meet_60 (by decide) rfl ?_
    refine mm_iload dX11_meet_62 1 rfl ?_
    refine mm_bipush (v := (-4)) dX11_meet_64 (by decide) ?_
    refine mm_icmp_eq (tgt := 76) dX11_meet_66 (by decide) (fun c66 => ?_) (fun c66 => ?_)
    · refine mm_bipush (v := (-4)) dX11_meet_76 (by decide) ?_
      exact mm_iret dX11_meet_78 rfl (⟨rfl, X2, Y2, rl2, ST2, ha, hf, hI2⟩)
    · refine mm_iload dX11_meet_69 0 rfl ?_
      refine mm_bipush (v := (-4)) dX11_meet_71 (by decide) ?_
      refine mm_icmp_ne (tgt := 79) dX11_meet_73 (by decide) (fun c73 => ?_) (fun c73 => ?_)
      · exact False.elim (hm.elim (fun q => c66 (pfA_m.mpr q)) (fun q => c73 (pfA_m.mpr q)))
      · refine mm_bipush (v := (-4)) dX11_meet_76 (by decide) ?_
        exact mm_iret dX11_meet_78 rfl (⟨rfl, X2, Y2, rl2, ST2, ha, hf, hI2⟩)
  · omega
set_option maxRecDepth 100000 in
set_option maxHeartbeats 4000000 in
theorem cM_meetN {l : Launch} {D : va_G} {aa : Nat → ClassId} {b0 : Nat} {h : mm_H} {o : Nat} {X : Nat → Nat → Int32} {Y : Nat → Nat → Int64} {rl : Option Nat} {s : aS} {ST : Nat → Bool} {n p w : Nat} (ha : cm_at o X Y rl h) (hW : WF s) (hI : CI s ST X Y rl) (hn : n < aNv s) (hp : p < aNv s) (hw : w < 2) (hm1 : (aR s n).length ≤ 1000) (hm2 : (aR s p).length ≤ 1000) (h0 : pfA (aR s n).length ≠ 0 ∨ pfA (aR s p).length ≠ 0) : mm_V (zz_K l D aa b0) 6 yX11_meet cX11_meet 11 (some .int) 0 [(0, .ref (o + 0)), (1, .int (nI (n))), (2, .int (nI (p))), (3, .int (nI (w)))] [] h 0 0 (fun rv h' => rv = some (.int (-1)) ∧ ∃ (X' : Nat → Nat → Int32) (Y' : Nat → Nat → Int64) (rl' : Option Nat) (ST' : Nat → Bool), cm_at o X' Y' rl' h' ∧ cm_fr o h h' ∧ CI s ST' X' Y' rl') := by
  have hf := cm_fr.rf (o := o) (h := h)
  have hn6 : n < 6 := by have := hW.1.1; omega
  have hva : vA (61 + 10 * n) := Or.inr ⟨n, hn6, rfl⟩
  have hvok := hW.2.1 n hn6
  have hsz24 : aSz s n ≤ 24 := hvok.1.2
  obtain ⟨hvs, hvw, hr2, hvst, -⟩ := hI.2.1 n hn6
  have hn6P : p < 6 := by have := hW.1.1; omega
  have hvaP : vA (61 + 10 * p) := Or.inr ⟨p, hn6P, rfl⟩
  have hvokP := hW.2.1 p hn6P
  have hsz24P : aSz s p ≤ 24 := hvokP.1.2
  obtain ⟨hvsP, hvwP, hr2P, hvstP, -⟩ := hI.2.1 p hn6P
  refine mm_aload_n dX11_meet_0 rfl 0 rfl ?_
  refine mm_iload_n dX11_meet_1 rfl 1 rfl ?_
  refine cm_callVr (As := [.int (nI (n))]) (rest := []) (d2 := 0) dX11_meet_2 ha (by decide) rfl zz_clX11 zc_X11_55 zs_X11_voiceAt rfl rfl (Nat.le_of_ble_eq_true rfl) (Nat.le_of_ble_eq_true rfl) (by decide) (cM_voiceAt ha hI.1.1 hW.1.1 hn) ?_
  refine mm_astore (L' := [(4, .ref (o + (61 + 10 * n))), (0, .ref (o + 0)), (1, .int (nI (n))), (2, .int (nI (p))), (3, .int (nI (w)))]) dX11_meet_5 (by decide) rfl ?_
  refine mm_aload_n dX11_meet_7 rfl 1 rfl ?_
  refine mm_iload_n dX11_meet_8 rfl 3 rfl ?_
  refine cm_callVr (As := [.int (nI (p))]) (rest := []) (d2 := 0) dX11_meet_9 ha (by decide) rfl zz_clX11 zc_X11_55 zs_X11_voiceAt rfl rfl (Nat.le_of_ble_eq_true rfl) (Nat.le_of_ble_eq_true rfl) (by decide) (cM_voiceAt ha hI.1.1 hW.1.1 hp) ?_
  refine mm_astore (L' := [(5, .ref (o + (61 + 10 * p))), (4, .ref (o + (61 + 10 * n))), (0, .ref (o + 0)), (1, .int (nI (n))), (2, .int (nI (p))), (3, .int (nI (w)))]) dX11_meet_12 (by decide) rfl ?_
  refine mm_aload dX11_meet_14 1 rfl ?_
  refine mm_ifnull dX11_meet_16 ?_
  refine mm_aload dX11_meet_19 0 rfl ?_
  refine mm_ifnull dX11_meet_21 ?_
  refine mm_iload_n dX11_meet_24 rfl 5 rfl ?_
  refine mn_if_lt (tgt := 33) dX11_meet_25 (by decide) (by omega) ?_
  refine mm_iload_n dX11_meet_28 rfl 5 rfl ?_
  refine mm_iconst (v := nI 1) dX11_meet_29 (by decide) ?_
  refine mn_icmp_le (tgt := 36) dX11_meet_30 (by decide) (by omega) (by omega) (fun c30 => ?_) (fun c30 => ?_)
  · refine mm_aload_n dX11_meet_36 rfl 2 rfl ?_
    refine mm_aload dX11_meet_37 1 rfl ?_
    refine mm_aload dX11_meet_39 1 rfl ?_
    refine cm_getI dX11_meet_41 ha zr_X11_121 (vA_lt hva 0 (by decide)) (vA_0 hva) rfl ?_
    refine mn_top (u := .int (nI (aPk s n))) (congrArg Value.int ((hvst.1.1))) ?_
    refine cm_callV (As := [.ref (o + (61 + 10 * n)), .int (nI (aPk s n))]) (rest := []) (d2 := 5) dX11_meet_44 ha (by decide) rfl zz_clX11 zc_X11_154 zs_X11_refusalOf rfl rfl (Nat.le_of_ble_eq_true rfl) (Nat.le_of_ble_eq_true rfl) (by decide) (cM_refusalOf ha hW hI hn) (fun r h1 hq => ?_)
    obtain ⟨rfl, X1, Y1, rl1, ST1, ha, hf', hI1, hST, hmo, -⟩ := hq
    have hf := hf.tr hf'
    have hpkP := (hI1.2.1 p hn6P).2.2.2.1.1.1
    rw [pf_rf hvok.2.2.2.2.2.2]
    refine mm_istore (L' := [(6, .int (pfA (aR s n).length)), (5, .ref (o + (61 + 10 * p))), (4, .ref (o + (61 + 10 * n))), (0, .ref (o + 0)), (1, .int (nI (n))), (2, .int (nI (p))), (3, .int (nI (w)))]) dX11_meet_47 (by decide) rfl ?_
    refine mm_aload_n dX11_meet_49 rfl 3 rfl ?_
    refine mm_aload dX11_meet_50 1 rfl ?_
    refine mm_aload dX11_meet_52 1 rfl ?_
    refine cm_getI dX11_meet_54 ha zr_X11_121 (vA_lt hvaP 0 (by decide)) (vA_0 hvaP) rfl ?_
    refine mn_top (u := .int (nI (aPk s p))) (congrArg Value.int ((hpkP))) ?_
    refine cm_callV (As := [.ref (o + (61 + 10 * p)), .int (nI (aPk s p))]) (rest := []) (d2 := 5) dX11_meet_57 ha (by decide) rfl zz_clX11 zc_X11_154 zs_X11_refusalOf rfl rfl (Nat.le_of_ble_eq_true rfl) (Nat.le_of_ble_eq_true rfl) (by decide) (cM_refusalOf ha hW hI1 hp) (fun r h1 hq => ?_)
    obtain ⟨rfl, X2, Y2, rl2, ST2, ha, hf', hI2, hSTP, hmo2, -⟩ := hq
    have hf := hf.tr hf'
    rw [pf_rf hvokP.2.2.2.2.2.2]
    have hSTn := hmo2 n hST
    refine mm_istore (L' := [(7, .int (pfA (aR s p).length)), (6, .int (pfA (aR s n).length)), (5, .ref (o + (61 + 10 * p))), (4, .ref (o + (61 + 10 * n))), (0, .ref (o + 0)), (1, .int (nI (n))), (2, .int (nI (p))), (3, .int (nI (w)))]) dX11_meet_60 (by decide) rfl ?_
    refine mm_iload dX11_meet_62 1 rfl ?_
    refine mm_bipush (v := (-4)) dX11_meet_64 (by decide) ?_
    refine mm_icmp_eq (tgt := 76) dX11_meet_66 (by decide) (fun c66 => ?_) (fun c66 => ?_)
    · exact absurd (pfA_m.mp c66) (by omega)
    · refine mm_iload dX11_meet_69 0 rfl ?_
      refine mm_bipush (v := (-4)) dX11_meet_71 (by decide) ?_
      refine mm_icmp_ne (tgt := 79) dX11_meet_73 (by decide) (fun c73 => ?_) (fun c73 => ?_)
      · refine mm_iload dX11_meet_79 1 rfl ?_
        refine mm_if_ne (tgt := 89) dX11_meet_81 (by decide) (fun c81 => ?_) (fun c81 => ?_)
        · refine mm_iconst (v := (-1)) dX11_meet_89 (by decide) ?_
          exact mm_iret dX11_meet_90 rfl (⟨rfl, X2, Y2, rl2, ST2, ha, hf, hI2⟩)
        · refine mm_iload dX11_meet_84 0 rfl ?_
          refine mm_if_eq (tgt := 91) dX11_meet_86 (by decide) (fun c86 => ?_) (fun c86 => ?_)
          · exact False.elim (h0.elim (fun q => q c81) (fun q => q c86))
          · refine mm_iconst (v := (-1)) dX11_meet_89 (by decide) ?_
            exact mm_iret dX11_meet_90 rfl (⟨rfl, X2, Y2, rl2, ST2, ha, hf, hI2⟩)
      · exact absurd (pfA_m.mp c73) (by omega)
  · omega
set_option maxRecDepth 100000 in
set_option maxHeartbeats 4000000 in
theorem cM_meet {l : Launch} {D : va_G} {aa : Nat → ClassId} {b0 : Nat} {h : mm_H} {o : Nat} {X : Nat → Nat → Int32} {Y : Nat → Nat → Int64} {rl : Option Nat} {s : aS} {ST : Nat → Bool} {n p w : Nat} {y yP : gR} (ha : cm_at o X Y rl h) (hW : WF s) (hI : CI s ST X Y rl) (hn : n < aNv s) (hp : p < aNv s) (hw : w < 2) (hN : (aR s n).length ≤ 1000) (hL0 : 0 < (aR s n).length) (hy : (aR s n)[aPk s n]? = some y) (hNP : (aR s p).length ≤ 1000) (hL0P : 0 < (aR s p).length) (hyP : (aR s p)[aPk s p]? = some yP) : mm_V (zz_K l D aa b0) 6 yX11_meet cX11_meet 11 (some .int) 0 [(0, .ref (o + 0)), (1, .int (nI (n))), (2, .int (nI (p))), (3, .int (nI (w)))] [] h 0 0 (fun rv h' => rv = some (.int (nI (mtI s n p y yP w (aSz s p) (aSz s n)))) ∧ ∃ (X' : Nat → Nat → Int32) (Y' : Nat → Nat → Int64) (rl' : Option Nat) (ST' : Nat → Bool), cm_at o X' Y' rl' h' ∧ cm_fr o h h' ∧ CI s ST' X' Y' rl') := by
  have hf := cm_fr.rf (o := o) (h := h)
  have hn6 : n < 6 := by have := hW.1.1; omega
  have hva : vA (61 + 10 * n) := Or.inr ⟨n, hn6, rfl⟩
  have hvok := hW.2.1 n hn6
  have hsz24 : aSz s n ≤ 24 := hvok.1.2
  obtain ⟨hvs, hvw, hr2, hvst, -⟩ := hI.2.1 n hn6
  have hn6P : p < 6 := by have := hW.1.1; omega
  have hvaP : vA (61 + 10 * p) := Or.inr ⟨p, hn6P, rfl⟩
  have hvokP := hW.2.1 p hn6P
  have hsz24P : aSz s p ≤ 24 := hvokP.1.2
  obtain ⟨hvsP, hvwP, hr2P, hvstP, -⟩ := hI.2.1 p hn6P
  refine mm_aload_n dX11_meet_0 rfl 0 rfl ?_
  refine mm_iload_n dX11_meet_1 rfl 1 rfl ?_
  refine cm_callVr (As := [.int (nI (n))]) (rest := []) (d2 := 0) dX11_meet_2 ha (by decide) rfl zz_clX11 zc_X11_55 zs_X11_voiceAt rfl rfl (Nat.le_of_ble_eq_true rfl) (Nat.le_of_ble_eq_true rfl) (by decide) (cM_voiceAt ha hI.1.1 hW.1.1 hn) ?_
  refine mm_astore (L' := [(4, .ref (o + (61 + 10 * n))), (0, .ref (o + 0)), (1, .int (nI (n))), (2, .int (nI (p))), (3, .int (nI (w)))]) dX11_meet_5 (by decide) rfl ?_
  refine mm_aload_n dX11_meet_7 rfl 1 rfl ?_
  refine mm_iload_n dX11_meet_8 rfl 3 rfl ?_
  refine cm_callVr (As := [.int (nI (p))]) (rest := []) (d2 := 0) dX11_meet_9 ha (by decide) rfl zz_clX11 zc_X11_55 zs_X11_voiceAt rfl rfl (Nat.le_of_ble_eq_true rfl) (Nat.le_of_ble_eq_true rfl) (by decide) (cM_voiceAt ha hI.1.1 hW.1.1 hp) ?_
  refine mm_astore (L' := [(5, .ref (o + (61 + 10 * p))), (4, .ref (o + (61 + 10 * n))), (0, .ref (o + 0)), (1, .int (nI (n))), (2, .int (nI (p))), (3, .int (nI (w)))]) dX11_meet_12 (by decide) rfl ?_
  refine mm_aload dX11_meet_14 1 rfl ?_
  refine mm_ifnull dX11_meet_16 ?_
  refine mm_aload dX11_meet_19 0 rfl ?_
  refine mm_ifnull dX11_meet_21 ?_
  refine mm_iload_n dX11_meet_24 rfl 5 rfl ?_
  refine mn_if_lt (tgt := 33) dX11_meet_25 (by decide) (by omega) ?_
  refine mm_iload_n dX11_meet_28 rfl 5 rfl ?_
  refine mm_iconst (v := nI 1) dX11_meet_29 (by decide) ?_
  refine mn_icmp_le (tgt := 36) dX11_meet_30 (by decide) (by omega) (by omega) (fun c30 => ?_) (fun c30 => ?_)
  · refine mm_aload_n dX11_meet_36 rfl 2 rfl ?_
    refine mm_aload dX11_meet_37 1 rfl ?_
    refine mm_aload dX11_meet_39 1 rfl ?_
    refine cm_getI dX11_meet_41 ha zr_X11_121 (vA_lt hva 0 (by decide)) (vA_0 hva) rfl ?_
    refine mn_top (u := .int (nI (aPk s n))) (congrArg Value.int ((hvst.1.1))) ?_
    refine cm_callV (As := [.ref (o + (61 + 10 * n)), .int (nI (aPk s n))]) (rest := []) (d2 := 5) dX11_meet_44 ha (by decide) rfl zz_clX11 zc_X11_154 zs_X11_refusalOf rfl rfl (Nat.le_of_ble_eq_true rfl) (Nat.le_of_ble_eq_true rfl) (by decide) (cM_refusalOf ha hW hI hn) (fun r h1 hq => ?_)
    obtain ⟨rfl, X1, Y1, rl1, ST1, ha, hf', hI1, hST, hmo, -⟩ := hq
    have hf := hf.tr hf'
    have hpkP := (hI1.2.1 p hn6P).2.2.2.1.1.1
    rw [pf_rf hvok.2.2.2.2.2.2]
    refine mm_istore (L' := [(6, .int (pfA (aR s n).length)), (5, .ref (o + (61 + 10 * p))), (4, .ref (o + (61 + 10 * n))), (0, .ref (o + 0)), (1, .int (nI (n))), (2, .int (nI (p))), (3, .int (nI (w)))]) dX11_meet_47 (by decide) rfl ?_
    refine mm_aload_n dX11_meet_49 rfl 3 rfl ?_
    refine mm_aload dX11_meet_50 1 rfl ?_
    refine mm_aload dX11_meet_52 1 rfl ?_
    refine cm_getI dX11_meet_54 ha zr_X11_121 (vA_lt hvaP 0 (by decide)) (vA_0 hvaP) rfl ?_
    refine mn_top (u := .int (nI (aPk s p))) (congrArg Value.int ((hpkP))) ?_
    refine cm_callV (As := [.ref (o + (61 + 10 * p)), .int (nI (aPk s p))]) (rest := []) (d2 := 5) dX11_meet_57 ha (by decide) rfl zz_clX11 zc_X11_154 zs_X11_refusalOf rfl rfl (Nat.le_of_ble_eq_true rfl) (Nat.le_of_ble_eq_true rfl) (by decide) (cM_refusalOf ha hW hI1 hp) (fun r h1 hq => ?_)
    obtain ⟨rfl, X2, Y2, rl2, ST2, ha, hf', hI2, hSTP, hmo2, -⟩ := hq
    have hf := hf.tr hf'
    rw [pf_rf hvokP.2.2.2.2.2.2]
    have hSTn := hmo2 n hST
    refine mm_istore (L' := [(7, .int (pfA (aR s p).length)), (6, .int (pfA (aR s n).length)), (5, .ref (o + (61 + 10 * p))), (4, .ref (o + (61 + 10 * n))), (0, .ref (o + 0)), (1, .int (nI (n))), (2, .int (nI (p))), (3, .int (nI (w)))]) dX11_meet_60 (by decide) rfl ?_
    refine mm_iload dX11_meet_62 1 rfl ?_
    refine mm_bipush (v := (-4)) dX11_meet_64 (by decide) ?_
    refine mm_icmp_eq (tgt := 76) dX11_meet_66 (by decide) (fun c66 => ?_) (fun c66 => ?_)
    · exact absurd (pfA_m.mp c66) (by omega)
    · refine mm_iload dX11_meet_69 0 rfl ?_
      refine mm_bipush (v := (-4)) dX11_meet_71 (by decide) ?_
      refine mm_icmp_ne (tgt := 79) dX11_meet_73 (by decide) (fun c73 => ?_) (fun c73 => ?_)
      · refine mm_iload dX11_meet_79 1 rfl ?_
        refine mm_if_ne (tgt := 89) dX11_meet_81 (by decide) (fun c81 => ?_) (fun c81 => ?_)
        · exact absurd (pfA_1 hN hL0) c81
        · refine mm_iload dX11_meet_84 0 rfl ?_
          refine mm_if_eq (tgt := 91) dX11_meet_86 (by decide) (fun c86 => ?_) (fun c86 => ?_)
          · refine mm_aload_n dX11_meet_91 rfl 4 rfl ?_
            refine cm_getR (b := 51) dX11_meet_92 ha zr_X11_38 (by decide) rfl rfl rfl ?_
            refine mm_aload dX11_meet_95 3 rfl ?_
            obtain ⟨hvs, hvw, hr2, hvst, -⟩ := hI2.2.1 n hn6
            rw [hSTn] at hvst
            obtain ⟨-, hpv⟩ := hvst.2.2 rfl
            obtain ⟨hvsP, hvwP, hr2P, hvstP, -⟩ := hI2.2.1 p hn6P
            rw [hSTP] at hvstP
            obtain ⟨-, hpvP⟩ := hvstP.2.2 rfl
            refine cm_callV (As := [.ref (o + (61 + 10 * n))]) (rest := []) (d2 := 3) dX11_meet_97 ha (by decide) rfl zz_clX8 zc_X11_185 zs_X8_fill rfl rfl (Nat.le_of_ble_eq_true rfl) (Nat.le_of_ble_eq_true rfl) (by decide) (ct_fill (a := 51) (v := 61 + 10 * n) (n := aSz s n) (V := aV y) (ua := fun i => aUa s (24 * n + i)) (da := fun i => aDa s (24 * n + i)) ha (Or.inl rfl) hva hvw.1.1 hsz24 (hpv hN y hy) (fun i hi => (hr2.2 i hi).2.1) (fun i hi => (hr2.2 i hi).2.2) (a_sz hW hn6 hy) (a_u1 hW hn6)) (fun r h1 hq => ?_)
            obtain ⟨rfl, Y3, ha, hf', hfy, hTT⟩ := hq
            have hf := hf.tr hf'
            have hvwP := vw_s hvwP (X' := xu X2 51 4 (nI (aSz s n))) (fun b i z => xu_a (by omega))
            have hr2P := rx2_x hr2P (X' := xu X2 51 4 (nI (aSz s n))) (fun b i z => xu_a (by omega))
            have hpvP : (rD (aW s p) (aSg s p)).length ≤ 1000 → ∀ y, (rD (aW s p) (aSg s p))[aPk s p]? = some y → ∀ i, i < (aW s p).1 → (xu X2 51 4 (nI (aSz s n))) (61 + 10 * p + 2) i = nI (y.2.getD i 0) := fun q1 y q2 i q3 => (xu_a (by omega)).trans (hpvP q1 y q2 i q3)
            refine mm_aload_n dX11_meet_100 rfl 4 rfl ?_
            refine cm_getR (b := 56) dX11_meet_101 ha zr_X11_42 (by decide) rfl rfl rfl ?_
            refine mm_aload dX11_meet_104 2 rfl ?_
            refine cm_callV (As := [.ref (o + (61 + 10 * p))]) (rest := []) (d2 := 3) dX11_meet_106 ha (by decide) rfl zz_clX8 zc_X11_185 zs_X8_fill rfl rfl (Nat.le_of_ble_eq_true rfl) (Nat.le_of_ble_eq_true rfl) (by decide) (ct_fill (a := 56) (v := 61 + 10 * p) (n := aSz s p) (V := aV yP) (ua := fun i => aUa s (24 * p + i)) (da := fun i => aDa s (24 * p + i)) ha (Or.inr rfl) hvaP hvwP.1.1 hsz24P (hpvP hNP yP hyP) (fun i hi => (hr2P.2 i hi).2.1) (fun i hi => (hr2P.2 i hi).2.2) (a_sz hW hn6P hyP) (a_u1 hW hn6P)) (fun r h1 hq => ?_)
            obtain ⟨rfl, Y4, ha, hf', hfyP, hTTP⟩ := hq
            have hf := hf.tr hf'
            have hI4 : CI s ST2 (xu (xu X2 51 4 (nI (aSz s n))) 56 4 (nI (aSz s p))) Y4 rl2 := CI_sc (CI_sc (X' := xu X2 51 4 (nI (aSz s n))) hI2 (hI2.2.2.2.2.1.2.elim (fun m hm => ⟨m, hm.1, (xu_a (by decide)).trans hm.2⟩)) (fun b i z => xu_a (by omega)) (fun b i z => hfy b i (by omega))) ⟨aSz s p, hsz24P, xu_s⟩ (fun b i z => xu_a (by omega)) (fun b i z => hfyP b i (by omega))
            have k1 : (xu (xu X2 51 4 (nI (aSz s n))) 56 4 (nI (aSz s p))) (61 + 10 * n + 3) 6 = nI (aSz s n) := (xu_a (by omega)).trans ((xu_a (by omega)).trans hvw.1.1)
            have k2 : (xu (xu X2 51 4 (nI (aSz s n))) 56 4 (nI (aSz s p))) (61 + 10 * p + 3) 6 = nI (aSz s p) := (xu_a (by omega)).trans hvwP.1.1
            have k3 : ∀ i, i < aSz s n → (xu (xu X2 51 4 (nI (aSz s n))) 56 4 (nI (aSz s p))) (61 + 10 * n + 3 + 1) i = nI (aSo s (24 * n + i)) ∧ aSo s (24 * n + i) ≤ 3 ∧ (aSo s (24 * n + i) = 1 → (xu (xu X2 51 4 (nI (aSz s n))) 56 4 (nI (aSz s p))) (61 + 10 * n + 3 + 3) i = Int32.ofInt (aPi s (24 * n + i))) := fun i hi => by
              have h1 := hvw.2 i hi
              have h2 := hr2.2 i hi
              rw [show (aW s n).2.1 i = aSo s (24 * n + i) from if_pos hi] at h1 h2
              exact ⟨(xu_a (by omega)).trans ((xu_a (by omega)).trans h1.1), h1.2.1.2, fun z => (xu_a (by omega)).trans ((xu_a (by omega)).trans (h2.1.trans (if_pos z)))⟩
            have k4 : ∀ i, i < aSz s p → (xu (xu X2 51 4 (nI (aSz s n))) 56 4 (nI (aSz s p))) (61 + 10 * p + 3 + 1) i = nI (aSo s (24 * p + i)) ∧ aSo s (24 * p + i) ≤ 3 ∧ (aSo s (24 * p + i) = 1 → (xu (xu X2 51 4 (nI (aSz s n))) 56 4 (nI (aSz s p))) (61 + 10 * p + 3 + 3) i = Int32.ofInt (aPi s (24 * p + i))) := fun i hi => by
              have h1 := hvwP.2 i hi
              have h2 := hr2P.2 i hi
              rw [show (aW s p).2.1 i = aSo s (24 * p + i) from if_pos hi] at h1 h2
              exact ⟨(xu_a (by omega)).trans h1.1, h1.2.1.2, fun z => (xu_a (by omega)).trans (h2.1.trans (if_pos z))⟩
            have hpi : ∀ v, v < 6 → ∀ i, i < aSz s v → -40 ≤ aPi s (24 * v + i) ∧ aPi s (24 * v + i) ≤ 40 := fun v hv i hi => ((hW.2.1 v hv).2.2.2.1 i hi).2.2.1
            refine mm_iconst (v := nI 0) dX11_meet_109 (by decide) ?_
            refine mm_istore (L' := [(8, .int (nI (0))), (7, .int (pfA (aR s p).length)), (6, .int (pfA (aR s n).length)), (5, .ref (o + (61 + 10 * p))), (4, .ref (o + (61 + 10 * n))), (0, .ref (o + 0)), (1, .int (nI (n))), (2, .int (nI (p))), (3, .int (nI (w)))]) dX11_meet_110 (by decide) rfl ?_
            refine mm_iconst (v := nI 0) dX11_meet_112 (by decide) ?_
            refine mm_istore (L' := [(9, .int (nI (0))), (8, .int (nI (0))), (7, .int (pfA (aR s p).length)), (6, .int (pfA (aR s n).length)), (5, .ref (o + (61 + 10 * p))), (4, .ref (o + (61 + 10 * n))), (0, .ref (o + 0)), (1, .int (nI (n))), (2, .int (nI (p))), (3, .int (nI (w)))]) dX11_meet_113 (by decide) rfl ?_
            refine mn_sub [0, 1, 2, 3, 4, 5, 6, 7, 8, 9] rfl ?_
            suffices lp : ∀ (m i : Nat), i + m = aSz s n → mm_V (zz_K l D aa b0) 6 yX11_meet cX11_meet 11 (some .int) 115 [(9, .int (nI (i))), (8, .int (nI (mtI s n p y yP w (aSz s p) i))), (7, .int (pfA (aR s p).length)), (6, .int (pfA (aR s n).length)), (5, .ref (o + (61 + 10 * p))), (4, .ref (o + (61 + 10 * n))), (0, .ref (o + 0)), (1, .int (nI (n))), (2, .int (nI (p))), (3, .int (nI (w)))] [] h1 0 0 (fun rv h' => rv = some (.int (nI (mtI s n p y yP w (aSz s p) (aSz s n)))) ∧ ∃ (X' : Nat → Nat → Int32) (Y' : Nat → Nat → Int64) (rl' : Option Nat) (ST' : Nat → Bool), cm_at o X' Y' rl' h' ∧ cm_fr o h h' ∧ CI s ST' X' Y' rl') from lp (aSz s n) 0 (by omega)
            intro m
            induction m with
            | zero =>
              intro i him
              have hmi := mtI_le (s := s) (a := n) (b := p) (y := y) (z := yP) (w := w) (m := aSz s p) i
              have hmi2 : i * aSz s p ≤ 24 * 24 := Nat.mul_le_mul (by omega) hsz24P
              refine mm_iload dX11_meet_115 0 rfl ?_
              refine mm_aload dX11_meet_117 5 rfl ?_
              refine cm_getR (b := 61 + 10 * n + 3) dX11_meet_119 ha zr_X11_70 (vA_lt hva 0 (by decide)) (vA_0 hva) rfl rfl ?_
              refine cm_getI dX11_meet_122 ha zr_X11_74 (vA_lt hva 3 (by decide)) (vA_3 hva) rfl ?_
              refine mn_top (u := .int (nI (aSz s n))) (congrArg Value.int ((k1))) ?_
              refine mn_icmp_ge (tgt := 210) dX11_meet_125 (by decide) (by omega) (by omega) (fun c125 => ?_) (fun c125 => ?_)
              · have e : i = aSz s n := by omega
                subst e
                refine mm_iload dX11_meet_210 1 rfl ?_
                exact mm_iret dX11_meet_212 rfl (⟨rfl, _, Y4, rl2, ST2, ha, hf, hI4⟩)
              · omega
            | succ m ih =>
              intro i him
              have hmi := mtI_le (s := s) (a := n) (b := p) (y := y) (z := yP) (w := w) (m := aSz s p) i
              have hmi2 : i * aSz s p ≤ 24 * 24 := Nat.mul_le_mul (by omega) hsz24P
              refine mm_iload dX11_meet_115 0 rfl ?_
              refine mm_aload dX11_meet_117 5 rfl ?_
              refine cm_getR (b := 61 + 10 * n + 3) dX11_meet_119 ha zr_X11_70 (vA_lt hva 0 (by decide)) (vA_0 hva) rfl rfl ?_
              refine cm_getI dX11_meet_122 ha zr_X11_74 (vA_lt hva 3 (by decide)) (vA_3 hva) rfl ?_
              refine mn_top (u := .int (nI (aSz s n))) (congrArg Value.int ((k1))) ?_
              refine mn_icmp_ge (tgt := 210) dX11_meet_125 (by decide) (by omega) (by omega) (fun c125 => ?_) (fun c125 => ?_)
              · omega
              · refine mm_iconst (v := nI 0) dX11_meet_128 (by decide) ?_
                refine mm_istore (L' := [(10, .int (nI (0))), (9, .int (nI (i))), (8, .int (nI (mtI s n p y yP w (aSz s p) i))), (7, .int (pfA (aR s p).length)), (6, .int (pfA (aR s n).length)), (5, .ref (o + (61 + 10 * p))), (4, .ref (o + (61 + 10 * n))), (0, .ref (o + 0)), (1, .int (nI (n))), (2, .int (nI (p))), (3, .int (nI (w)))]) dX11_meet_129 (by decide) rfl ?_
                refine mn_sub [0, 1, 2, 3, 4, 5, 6, 7, 8, 9, 10] rfl ?_
                have hi : i < aSz s n := by omega
                obtain ⟨a1, a2, a3⟩ := k3 i hi
                have b1 := a_tb hW hn6 hy (i := i) (by omega)
                suffices lq : ∀ (k j : Nat), j + k = aSz s p → mm_V (zz_K l D aa b0) 6 yX11_meet cX11_meet 11 (some .int) 131 [(10, .int (nI (j))), (9, .int (nI (i))), (8, .int (nI (mtI s n p y yP w (aSz s p) i + mtJ s n p y yP w i j))), (7, .int (pfA (aR s p).length)), (6, .int (pfA (aR s n).length)), (5, .ref (o + (61 + 10 * p))), (4, .ref (o + (61 + 10 * n))), (0, .ref (o + 0)), (1, .int (nI (n))), (2, .int (nI (p))), (3, .int (nI (w)))] [] h1 0 0 (fun rv h' => rv = some (.int (nI (mtI s n p y yP w (aSz s p) (aSz s n)))) ∧ ∃ (X' : Nat → Nat → Int32) (Y' : Nat → Nat → Int64) (rl' : Option Nat) (ST' : Nat → Bool), cm_at o X' Y' rl' h' ∧ cm_fr o h h' ∧ CI s ST' X' Y' rl') from lq (aSz s p) 0 (by omega)
                intro k
                induction k with
                | zero =>
                  intro j hjk
                  have hmj := mtJ_le (s := s) (a := n) (b := p) (y := y) (z := yP) (w := w) (i := i) j
                  refine mm_iload dX11_meet_131 0 rfl ?_
                  refine mm_aload dX11_meet_133 5 rfl ?_
                  refine cm_getR (b := 61 + 10 * p + 3) dX11_meet_135 ha zr_X11_70 (vA_lt hvaP 0 (by decide)) (vA_0 hvaP) rfl rfl ?_
                  refine cm_getI dX11_meet_138 ha zr_X11_74 (vA_lt hvaP 3 (by decide)) (vA_3 hvaP) rfl ?_
                  refine mn_top (u := .int (nI (aSz s p))) (congrArg Value.int ((k2))) ?_
                  refine mn_icmp_ge (tgt := 204) dX11_meet_141 (by decide) (by omega) (by omega) (fun c141 => ?_) (fun c141 => ?_)
                  · have e : j = aSz s p := by omega
                    subst e
                    refine mn_iinc (m := 1) (L' := [(9, .int (nI (i + 1))), (10, .int (nI (aSz s p))), (8, .int (nI (mtI s n p y yP w (aSz s p) (i + 1)))), (7, .int (pfA (aR s p).length)), (6, .int (pfA (aR s n).length)), (5, .ref (o + (61 + 10 * p))), (4, .ref (o + (61 + 10 * n))), (0, .ref (o + 0)), (1, .int (nI (n))), (2, .int (nI (p))), (3, .int (nI (w)))]) dX11_meet_204 (by decide) 1 rfl (by decide) rfl ?_
                    refine mm_goto (tgt := 115) dX11_meet_207 (by decide) ?_
                    refine mn_sub [0, 2, 3, 4, 5, 6, 7, 8, 9, 10] rfl ?_
                    exact ih (i + 1) (by omega)
                  · omega
                | succ k ih2 =>
                  intro j hjk
                  have hmj := mtJ_le (s := s) (a := n) (b := p) (y := y) (z := yP) (w := w) (i := i) j
                  refine mm_iload dX11_meet_131 0 rfl ?_
                  refine mm_aload dX11_meet_133 5 rfl ?_
                  refine cm_getR (b := 61 + 10 * p + 3) dX11_meet_135 ha zr_X11_70 (vA_lt hvaP 0 (by decide)) (vA_0 hvaP) rfl rfl ?_
                  refine cm_getI dX11_meet_138 ha zr_X11_74 (vA_lt hvaP 3 (by decide)) (vA_3 hvaP) rfl ?_
                  refine mn_top (u := .int (nI (aSz s p))) (congrArg Value.int ((k2))) ?_
                  refine mn_icmp_ge (tgt := 204) dX11_meet_141 (by decide) (by omega) (by omega) (fun c141 => ?_) (fun c141 => ?_)
                  · omega
                  · have hj : j < aSz s p := by omega
                    obtain ⟨c1, c2, c3⟩ := k4 j hj
                    have b2 := a_tb hW hn6P hyP (i := j) (by omega)
                    have hst : mtJ s n p y yP w i (j + 1) = mtJ s n p y yP w i j + Bool.toNat (mt1 s n p y yP w i j) := rfl
                    refine mm_aload_n dX11_meet_144 rfl 7 rfl ?_
                    refine mm_aload dX11_meet_145 6 rfl ?_
                    refine cm_getR (b := 61 + 10 * n + 3) dX11_meet_147 ha zr_X11_70 (vA_lt hva 0 (by decide)) (vA_0 hva) rfl rfl ?_
                    refine mm_iload dX11_meet_150 1 rfl ?_
                    refine mm_aload dX11_meet_152 5 rfl ?_
                    refine cm_getR (b := 61 + 10 * p + 3) dX11_meet_154 ha zr_X11_70 (vA_lt hvaP 0 (by decide)) (vA_0 hvaP) rfl rfl ?_
                    refine mm_iload dX11_meet_157 0 rfl ?_
                    refine cm_callVr (As := [.ref (o + (61 + 10 * n + 3)), .int (nI (i)), .ref (o + (61 + 10 * p + 3)), .int (nI (j))]) (rest := []) (d2 := 1) dX11_meet_159 ha (by decide) rfl zz_clX11 zc_X11_203 zs_X11_beginTogether rfl rfl (Nat.le_of_ble_eq_true rfl) (Nat.le_of_ble_eq_true rfl) (by decide) (cM_beginTogether (m := aSz s n) (q := aSz s p) (so := aSo s (24 * n + i)) (sq := aSo s (24 * p + j)) (ti := aT s n y i) (tj := aT s p yP j) ha hva hvaP k1 hsz24 hi a1 a2 k2 hsz24P hj c1 c2 ((xu_a (by decide)).trans xu_s) xu_s ((hfyP _ _ (by omega)).trans (hTT i (by omega)).1) ((hfyP _ _ (by omega)).trans (hTT i (by omega)).2) (hTTP j (by omega)).1 (hTTP j (by omega)).2 ⟨b1.1, b1.2.1⟩ ⟨b2.1, b2.2.1⟩) ?_
                    refine mn_ifB_eq (tgt := 198) dX11_meet_162 (by decide) (fun c162 => ?_) (fun c162 => ?_)
                    · refine mn_iinc (m := 1) (L' := [(10, .int (nI (j + 1))), (9, .int (nI (i))), (8, .int (nI (mtI s n p y yP w (aSz s p) i + mtJ s n p y yP w i j))), (7, .int (pfA (aR s p).length)), (6, .int (pfA (aR s n).length)), (5, .ref (o + (61 + 10 * p))), (4, .ref (o + (61 + 10 * n))), (0, .ref (o + 0)), (1, .int (nI (n))), (2, .int (nI (p))), (3, .int (nI (w)))]) dX11_meet_198 (by decide) 0 rfl (by decide) rfl ?_
                      refine mm_goto (tgt := 131) dX11_meet_201 (by decide) ?_
                      have em : mt1 s n p y yP w i j = false := mt_f c162
                      rw [em] at hst
                      refine mn_sub [0, 1, 2, 3, 4, 5, 6, 7, 8, 9, 10] rfl ?_
                      have ih2 := ih2 (j + 1) (by omega)
                      rw [hst] at ih2
                      exact ih2
                    · obtain ⟨e1, e2, e3⟩ := mt_t c162
                      refine mm_iload_n dX11_meet_165 rfl 10 rfl ?_
                      refine mn_if_eq (tgt := 195) dX11_meet_166 (by decide) (by omega) (fun c166 => ?_) (fun c166 => ?_)
                      · refine mn_iinc (m := 1) (L' := [(8, .int (nI (mtI s n p y yP w (aSz s p) i + mtJ s n p y yP w i j + 1))), (10, .int (nI (j))), (9, .int (nI (i))), (7, .int (pfA (aR s p).length)), (6, .int (pfA (aR s n).length)), (5, .ref (o + (61 + 10 * p))), (4, .ref (o + (61 + 10 * n))), (0, .ref (o + 0)), (1, .int (nI (n))), (2, .int (nI (p))), (3, .int (nI (w)))]) dX11_meet_195 (by decide) 2 rfl (by decide) rfl ?_
                        refine mn_iinc (m := 1) (L' := [(10, .int (nI (j + 1))), (8, .int (nI (mtI s n p y yP w (aSz s p) i + mtJ s n p y yP w i j + 1))), (9, .int (nI (i))), (7, .int (pfA (aR s p).length)), (6, .int (pfA (aR s n).length)), (5, .ref (o + (61 + 10 * p))), (4, .ref (o + (61 + 10 * n))), (0, .ref (o + 0)), (1, .int (nI (n))), (2, .int (nI (p))), (3, .int (nI (w)))]) dX11_meet_198 (by decide) 1 rfl (by decide) rfl ?_
                        refine mm_goto (tgt := 131) dX11_meet_201 (by decide) ?_
                        have em : mt1 s n p y yP w i j = true := by unfold mt1; rw [decide_eq_true e1, decide_eq_true e2, decide_eq_true e3, decide_eq_true (show w = 0 from c166)]; rfl
                        rw [em] at hst
                        refine mn_sub [0, 2, 1, 3, 4, 5, 6, 7, 8, 9, 10] rfl ?_
                        have ih2 := ih2 (j + 1) (by omega)
                        rw [hst] at ih2
                        exact ih2
                      · refine mm_aload dX11_meet_169 6 rfl ?_
                        refine cm_getR (b := 61 + 10 * n + 3) dX11_meet_171 ha zr_X11_70 (vA_lt hva 0 (by decide)) (vA_0 hva) rfl rfl ?_
                        refine mm_iload dX11_meet_174 1 rfl ?_
                        refine cm_callVr (As := [.int (nI (i))]) (rest := []) (d2 := 0) dX11_meet_176 ha (vA_lt hva 3 (by decide)) (vA_3 hva) zz_clX6 zc_X11_130 zs_X6_pitchAt rfl rfl (Nat.le_of_ble_eq_true rfl) (Nat.le_of_ble_eq_true rfl) (by decide) (cr_pitchAt ha (vr_A hva) k1 hsz24 (by omega)) ?_
                        refine mn_top (u := .int (Int32.ofInt (aPi s (24 * n + i)))) (congrArg Value.int ((if_pos hi).trans (a3 e1))) ?_
                        refine mm_aload dX11_meet_179 5 rfl ?_
                        refine cm_getR (b := 61 + 10 * p + 3) dX11_meet_181 ha zr_X11_70 (vA_lt hvaP 0 (by decide)) (vA_0 hvaP) rfl rfl ?_
                        refine mm_iload dX11_meet_184 0 rfl ?_
                        refine cm_callVr (As := [.int (nI (j))]) (rest := [.int (Int32.ofInt (aPi s (24 * n + i)))]) (d2 := 0) dX11_meet_186 ha (vA_lt hvaP 3 (by decide)) (vA_3 hvaP) zz_clX6 zc_X11_130 zs_X6_pitchAt rfl rfl (Nat.le_of_ble_eq_true rfl) (Nat.le_of_ble_eq_true rfl) (by decide) (cr_pitchAt ha (vr_A hvaP) k2 hsz24P (by omega)) ?_
                        refine mn_top (u := .int (Int32.ofInt (aPi s (24 * p + j)))) (congrArg Value.int ((if_pos hj).trans (c3 e2))) ?_
                        refine rm_callSr (As := [.int (Int32.ofInt (aPi s (24 * n + i))), .int (Int32.ofInt (aPi s (24 * p + j)))]) (rest := []) (d2 := 1) dX11_meet_189 zc_X11_207 rfl rfl (Nat.le_of_ble_eq_true rfl) (Nat.le_of_ble_eq_true rfl) (by decide) (ck_isSweet (x := aPi s (24 * n + i)) (z := aPi s (24 * p + j)) (hpi n hn6 i hi) (hpi p hn6P j hj)) ?_
                        refine mn_ifB_eq (tgt := 198) dX11_meet_192 (by decide) (fun c192 => ?_) (fun c192 => ?_)
                        · refine mn_iinc (m := 1) (L' := [(10, .int (nI (j + 1))), (9, .int (nI (i))), (8, .int (nI (mtI s n p y yP w (aSz s p) i + mtJ s n p y yP w i j))), (7, .int (pfA (aR s p).length)), (6, .int (pfA (aR s n).length)), (5, .ref (o + (61 + 10 * p))), (4, .ref (o + (61 + 10 * n))), (0, .ref (o + 0)), (1, .int (nI (n))), (2, .int (nI (p))), (3, .int (nI (w)))]) dX11_meet_198 (by decide) 0 rfl (by decide) rfl ?_
                          refine mm_goto (tgt := 131) dX11_meet_201 (by decide) ?_
                          have em : mt1 s n p y yP w i j = false := by unfold mt1; rw [decide_eq_true e1, decide_eq_true e2, decide_eq_true e3, decide_eq_false (show ¬ w = 0 from c166), c192]; rfl
                          rw [em] at hst
                          refine mn_sub [0, 1, 2, 3, 4, 5, 6, 7, 8, 9, 10] rfl ?_
                          have ih2 := ih2 (j + 1) (by omega)
                          rw [hst] at ih2
                          exact ih2
                        · refine mn_iinc (m := 1) (L' := [(8, .int (nI (mtI s n p y yP w (aSz s p) i + mtJ s n p y yP w i j + 1))), (10, .int (nI (j))), (9, .int (nI (i))), (7, .int (pfA (aR s p).length)), (6, .int (pfA (aR s n).length)), (5, .ref (o + (61 + 10 * p))), (4, .ref (o + (61 + 10 * n))), (0, .ref (o + 0)), (1, .int (nI (n))), (2, .int (nI (p))), (3, .int (nI (w)))]) dX11_meet_195 (by decide) 2 rfl (by decide) rfl ?_
                          refine mn_iinc (m := 1) (L' := [(10, .int (nI (j + 1))), (8, .int (nI (mtI s n p y yP w (aSz s p) i + mtJ s n p y yP w i j + 1))), (9, .int (nI (i))), (7, .int (pfA (aR s p).length)), (6, .int (pfA (aR s n).length)), (5, .ref (o + (61 + 10 * p))), (4, .ref (o + (61 + 10 * n))), (0, .ref (o + 0)), (1, .int (nI (n))), (2, .int (nI (p))), (3, .int (nI (w)))]) dX11_meet_198 (by decide) 1 rfl (by decide) rfl ?_
                          refine mm_goto (tgt := 131) dX11_meet_201 (by decide) ?_
                          have em : mt1 s n p y yP w i j = true := by unfold mt1; rw [decide_eq_true e1, decide_eq_true e2, decide_eq_true e3, decide_eq_false (show ¬ w = 0 from c166), c192]; rfl
                          rw [em] at hst
                          refine mn_sub [0, 2, 1, 3, 4, 5, 6, 7, 8, 9, 10] rfl ?_
                          have ih2 := ih2 (j + 1) (by omega)
                          rw [hst] at ih2
                          exact ih2
          · exact absurd (pfA_1 hNP hL0P) c86
      · exact absurd (pfA_m.mp c73) (by omega)
  · omega
