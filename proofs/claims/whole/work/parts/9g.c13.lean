/-! Reader: the next choice -/
set_option maxRecDepth 100000 in
set_option maxHeartbeats 4000000 in
theorem cs_endsOfm {l : Launch} {D : va_G} {aa : Nat → ClassId} {b0 : Nat} {h : mm_H} {o : Nat} {X : Nat → Nat → Int32} {Y : Nat → Nat → Int64} {rl : Option Nat} {f p : Nat} (ha : cm_at o X Y rl h) : mm_V (zz_K l D aa b0) 1 yX7_endsOf cX7_endsOf 5 (some .int) 0 [(0, .ref (o + 10)), (1, .int ((-1))), (2, .int (nI (f))), (3, .int (nI (p)))] [] h 0 0 (fun rv h' => h' = h ∧ rv = some (.int (nI 0))) := by
  refine mm_iload_n dX7_endsOf_0 rfl 1 rfl ?_
  refine cm_callSN (As := [.int ((-1))]) (rest := []) (d2 := 0) dX7_endsOf_1 zc_X7_102 rfl rfl (Nat.le_of_ble_eq_true rfl) (Nat.le_of_ble_eq_true rfl) (by decide) (ck_isKindI) ?_
  refine mn_top (u := .int (nI (Bool.toNat (false)))) (congrArg Value.int (by decide)) ?_
  refine mn_ifB_eq (tgt := 31) dX7_endsOf_4 (by decide) (fun c4 => ?_) (fun c4 => ?_)
  · refine mm_iconst (v := nI 0) dX7_endsOf_31 (by decide) ?_
    refine mm_istore (L' := [(4, .int (nI (0))), (0, .ref (o + 10)), (1, .int ((-1))), (2, .int (nI (f))), (3, .int (nI (p)))]) dX7_endsOf_32 (by decide) rfl ?_
    refine mm_iload dX7_endsOf_34 0 rfl ?_
    refine mn_if_eq (tgt := 58) dX7_endsOf_36 (by decide) (by omega) (fun c36 => ?_) (fun c36 => ?_)
    · refine mm_iconst (v := nI 0) dX7_endsOf_58 (by decide) ?_
      exact mm_iret dX7_endsOf_59 rfl (⟨rfl, rfl⟩)
    · exact absurd rfl c36
  · cases c4
theorem mx_n {a b : Nat} (ha : a < 2 ^ 31) (hb : b < 2 ^ 31) : (if nI a < nI b then nI b else nI a) = nI (if a < b then b else a) := by
  have e : nI a < nI b ↔ a < b := by
    rw [Int32.lt_iff_toInt_lt, nI_toInt ha, nI_toInt hb]
    omega
  by_cases h : a < b
  · rw [if_pos (e.mpr h), if_pos h]
  · rw [if_neg (fun z => h (e.mp z)), if_neg h]
set_option maxRecDepth 100000 in
set_option maxHeartbeats 4000000 in
theorem cR_nextR {l : Launch} {D : va_G} {aa : Nat → ClassId} {b0 : Nat} {h : mm_H} {o : Nat} {X : Nat → Nat → Int32} {Y : Nat → Nat → Int64} {rl : Option Nat} {w : ro_w} {sg a dt : Nat} {E U P H PL RS CO AL LI : Nat → Nat} {t p last : Nat} (ha : cm_at o X Y rl h) (hva : vA a) (hrq : rq_ X w sg a dt E U P H PL RS CO AL LI) (hrk : rk_ w sg (gd_ sg)) (hct : ct_ X w sg (gd_ sg) ([]) t) (hwf : wf_ (gd_ sg) ([])) (hp : p < w.1) (hlast : last ≤ 18) (hnd : ¬ w.2.1 p = 3) : mm_V (zz_K l D aa b0) 2 yX5_nextChoice cX5_nextChoice 12 (some .int) 0 [(0, .ref (o + 3)), (1, .ref (o + a)), (2, .int (nI (t))), (3, .int (nI (p))), (4, .int (nI (last)))] [] h 0 0 (fun rv h' => h' = h ∧ ∃ ch : Nat, rv = some (.int (nI ch)) ∧ ((ch = 0 ∧ ∀ c, last < c → c ∈ cl_ ([]) → nd_ w sg (gd_ sg) ([]) p c = []) ∨ (ch ∈ cl_ ([]) ∧ last < ch ∧ nd_ w sg (gd_ sg) ([]) p ch ≠ [] ∧ ∀ c, last < c → c < ch → c ∈ cl_ ([]) → nd_ w sg (gd_ sg) ([]) p c = []))) := by
  have h24 := hrk.1
  obtain ⟨ht8, -⟩ := ct_M hrq.2.1 hct
  have ht0 : t = 0 := hct
  subst ht0
  obtain ⟨M, hM, hmp⟩ := hrq.2.1.2.2
  have hnn : nn_ w [] p := hp
  have hM27 := hmp.1
  have hcl : ∀ c, c ∈ cl_ ([]) ↔ 1 ≤ c ∧ c ≤ 18 := by
    intro c; show c ∈ List.range' 1 18 ↔ _; rw [List.mem_range'_1]; omega
  have en : ∀ cc : Nat, cc < 100 → 18 < cc → (∀ c, last < c → c < cc → c ∈ cl_ ([]) → nd_ w sg (gd_ sg) ([]) p c = []) → mm_V (zz_K l D aa b0) 2 yX5_nextChoice cX5_nextChoice 12 (some .int) 100 [(9, .int (nI (cc))), (8, .int (nI (M))), (7, .int (nI (18))), (6, .int (nI (1))), (5, .int (nI (0))), (0, .ref (o + 3)), (1, .ref (o + a)), (2, .int (nI (0))), (3, .int (nI (p))), (4, .int (nI (last)))] [] h 0 0 (fun rv h' => h' = h ∧ ∃ ch : Nat, rv = some (.int (nI ch)) ∧ ((ch = 0 ∧ ∀ c, last < c → c ∈ cl_ ([]) → nd_ w sg (gd_ sg) ([]) p c = []) ∨ (ch ∈ cl_ ([]) ∧ last < ch ∧ nd_ w sg (gd_ sg) ([]) p ch ≠ [] ∧ ∀ c, last < c → c < ch → c ∈ cl_ ([]) → nd_ w sg (gd_ sg) ([]) p c = []))) := by
    intro cc hc0 hc1 hc2
    refine mm_iload dX5_nextChoice_100 0 rfl ?_
    refine mm_iload dX5_nextChoice_102 2 rfl ?_
    refine mn_icmp_gt (tgt := 180) dX5_nextChoice_104 (by decide) (by omega) (by omega) (fun c104 => ?_) (fun c104 => ?_)
    · refine mm_iconst (v := nI 0) dX5_nextChoice_180 (by decide) ?_
      exact mm_iret dX5_nextChoice_181 rfl (⟨rfl, 0, rfl, Or.inl ⟨rfl, fun c h1 h2 => hc2 c h1 (by have := (hcl c).mp h2; omega) h2⟩⟩)
    · omega
  have lp : ∀ n cc : Nat, cc + n = 18 + 1 → 1 ≤ cc → last < cc → (∀ c, last < c → c < cc → c ∈ cl_ ([]) → nd_ w sg (gd_ sg) ([]) p c = []) → mm_V (zz_K l D aa b0) 2 yX5_nextChoice cX5_nextChoice 12 (some .int) 100 [(9, .int (nI (cc))), (8, .int (nI (M))), (7, .int (nI (18))), (6, .int (nI (1))), (5, .int (nI (0))), (0, .ref (o + 3)), (1, .ref (o + a)), (2, .int (nI (0))), (3, .int (nI (p))), (4, .int (nI (last)))] [] h 0 0 (fun rv h' => h' = h ∧ ∃ ch : Nat, rv = some (.int (nI ch)) ∧ ((ch = 0 ∧ ∀ c, last < c → c ∈ cl_ ([]) → nd_ w sg (gd_ sg) ([]) p c = []) ∨ (ch ∈ cl_ ([]) ∧ last < ch ∧ nd_ w sg (gd_ sg) ([]) p ch ≠ [] ∧ ∀ c, last < c → c < ch → c ∈ cl_ ([]) → nd_ w sg (gd_ sg) ([]) p c = []))) := by
    intro n
    induction n with
    | zero =>
      intro cc h1 h2 h3 h4
      exact en cc (by omega) (by omega) h4
    | succ n ih =>
      intro cc h1 h2 h3 h4
      have hcm : cc ∈ cl_ ([]) := (hcl cc).mpr (by omega)
      refine mm_iload dX5_nextChoice_100 0 rfl ?_
      refine mm_iload dX5_nextChoice_102 2 rfl ?_
      refine mn_icmp_gt (tgt := 180) dX5_nextChoice_104 (by decide) (by omega) (by omega) (fun c104 => ?_) (fun c104 => ?_)
      · omega
      · refine mm_iload dX5_nextChoice_107 4 rfl ?_
        refine mn_if_ne (tgt := 123) dX5_nextChoice_109 (by decide) (by omega) (fun c109 => ?_) (fun c109 => ?_)
        · first | exact absurd rfl c109 | exact absurd c109 (by decide)
        · refine mm_aload_n dX5_nextChoice_112 rfl 5 rfl ?_
          refine mm_aload_n dX5_nextChoice_113 rfl 6 rfl ?_
          refine mm_iload dX5_nextChoice_114 0 rfl ?_
          refine mm_iload_n dX5_nextChoice_116 rfl 8 rfl ?_
          refine cm_callVr (As := [.ref (o + a), .int (nI (cc)), .int (nI (p))]) (rest := []) (d2 := 1) dX5_nextChoice_117 ha (by decide) rfl zz_clX5 zc_X5_188 zs_X5_itemKind rfl rfl (Nat.le_of_ble_eq_true rfl) (Nat.le_of_ble_eq_true rfl) (by decide) (cR_itemKind ha hva hrq.2.2.1 hrq.2.2.2 hp hnd (by omega)) ?_
          cases hic : ic_ w (gd_ sg) cc p with
          | none =>
            show mm_V (zz_K l D aa b0) 2 yX5_nextChoice cX5_nextChoice 12 (some .int) 120 [(9, .int (nI (cc))), (8, .int (nI (M))), (7, .int (nI (18))), (6, .int (nI (1))), (5, .int (nI (0))), (0, .ref (o + 3)), (1, .ref (o + a)), (2, .int (nI (0))), (3, .int (nI (p))), (4, .int (nI (last)))] [.int ((-1))] h 0 0 (fun rv h' => h' = h ∧ ∃ ch : Nat, rv = some (.int (nI ch)) ∧ ((ch = 0 ∧ ∀ c, last < c → c ∈ cl_ ([]) → nd_ w sg (gd_ sg) ([]) p c = []) ∨ (ch ∈ cl_ ([]) ∧ last < ch ∧ nd_ w sg (gd_ sg) ([]) p ch ≠ [] ∧ ∀ c, last < c → c < ch → c ∈ cl_ ([]) → nd_ w sg (gd_ sg) ([]) p c = [])))
            refine mm_goto (tgt := 131) dX5_nextChoice_120 (by decide) ?_
            refine mm_istore (L' := [(10, .int ((-1))), (9, .int (nI (cc))), (8, .int (nI (M))), (7, .int (nI (18))), (6, .int (nI (1))), (5, .int (nI (0))), (0, .ref (o + 3)), (1, .ref (o + a)), (2, .int (nI (0))), (3, .int (nI (p))), (4, .int (nI (last)))]) dX5_nextChoice_131 (by decide) rfl ?_
            refine mm_iload dX5_nextChoice_133 5 rfl ?_
            refine mn_if_ne (tgt := 146) dX5_nextChoice_135 (by decide) (by omega) (fun c135 => ?_) (fun c135 => ?_)
            · first | exact absurd rfl c135 | exact absurd c135 (by decide)
            · refine mm_iload dX5_nextChoice_138 1 rfl ?_
              refine rm_callSr (As := [.int (nI (cc))]) (rest := []) (d2 := 0) dX5_nextChoice_140 zc_X5_195 rfl rfl (Nat.le_of_ble_eq_true rfl) (Nat.le_of_ble_eq_true rfl) (by decide) (cR_itemForm (by omega)) ?_
              refine mm_goto (tgt := 148) dX5_nextChoice_143 (by decide) ?_
              refine mm_istore (L' := [(11, .int (nI (if_ cc))), (10, .int ((-1))), (9, .int (nI (cc))), (8, .int (nI (M))), (7, .int (nI (18))), (6, .int (nI (1))), (5, .int (nI (0))), (0, .ref (o + 3)), (1, .ref (o + a)), (2, .int (nI (0))), (3, .int (nI (p))), (4, .int (nI (last)))]) dX5_nextChoice_148 (by decide) rfl ?_
              refine mm_aload_n dX5_nextChoice_150 rfl 7 rfl ?_
              refine cm_getR (b := 4) dX5_nextChoice_151 ha zr_X5_14 (by decide) rfl rfl rfl ?_
              refine cm_getR (b := 10) dX5_nextChoice_154 ha zr_X5_54 (by decide) rfl rfl rfl ?_
              refine mm_iload dX5_nextChoice_157 1 rfl ?_
              refine mm_iload dX5_nextChoice_159 0 rfl ?_
              refine mm_iload_n dX5_nextChoice_161 rfl 10 rfl ?_
              refine cm_callVr (As := [.int ((-1)), .int (nI (if_ cc)), .int (nI (p))]) (rest := []) (d2 := 1) dX5_nextChoice_162 ha (by decide) rfl zz_clX7 zc_X5_198 zs_X7_endsOf rfl rfl (Nat.le_of_ble_eq_true rfl) (Nat.le_of_ble_eq_true rfl) (by decide) (cs_endsOfm ha) ?_
              refine mm_iload dX5_nextChoice_165 3 rfl ?_
              refine mn_iand dX5_nextChoice_167 ?_
              refine mn_if_eq (tgt := 174) dX5_nextChoice_168 (by decide) (by rw [Nat.zero_and]; decide) (fun c168 => ?_) (fun c168 => ?_)
              · have hno : nd_ w sg (gd_ sg) ([]) p cc = [] := by exact nd_none (by show (ic_ w (gd_ sg) cc p).map _ = _; rw [hic]; rfl)
                refine mn_iinc (m := 1) (L' := [(9, .int (nI (cc + 1))), (11, .int (nI (if_ cc))), (10, .int ((-1))), (8, .int (nI (M))), (7, .int (nI (18))), (6, .int (nI (1))), (5, .int (nI (0))), (0, .ref (o + 3)), (1, .ref (o + a)), (2, .int (nI (0))), (3, .int (nI (p))), (4, .int (nI (last)))]) dX5_nextChoice_174 (by decide) 2 rfl (by decide) rfl ?_
                refine mm_goto (tgt := 100) dX5_nextChoice_177 (by decide) ?_
                refine mn_sub [0, 3, 4, 5, 6, 7, 8, 9, 10, 11] rfl ?_
                exact ih (cc + 1) (by omega) (by omega) (by omega) (fun c a1 a2 a3 => by
                  by_cases e : c = cc
                  · rw [e]; exact hno
                  · exact h4 c a1 (by omega) a3)
              · exact absurd (Nat.zero_and _) c168
          | some k =>
            show mm_V (zz_K l D aa b0) 2 yX5_nextChoice cX5_nextChoice 12 (some .int) 120 [(9, .int (nI (cc))), (8, .int (nI (M))), (7, .int (nI (18))), (6, .int (nI (1))), (5, .int (nI (0))), (0, .ref (o + 3)), (1, .ref (o + a)), (2, .int (nI (0))), (3, .int (nI (p))), (4, .int (nI (last)))] [.int (nI (k))] h 0 0 (fun rv h' => h' = h ∧ ∃ ch : Nat, rv = some (.int (nI ch)) ∧ ((ch = 0 ∧ ∀ c, last < c → c ∈ cl_ ([]) → nd_ w sg (gd_ sg) ([]) p c = []) ∨ (ch ∈ cl_ ([]) ∧ last < ch ∧ nd_ w sg (gd_ sg) ([]) p ch ≠ [] ∧ ∀ c, last < c → c < ch → c ∈ cl_ ([]) → nd_ w sg (gd_ sg) ([]) p c = [])))
            refine mm_goto (tgt := 131) dX5_nextChoice_120 (by decide) ?_
            refine mm_istore (L' := [(10, .int (nI (k))), (9, .int (nI (cc))), (8, .int (nI (M))), (7, .int (nI (18))), (6, .int (nI (1))), (5, .int (nI (0))), (0, .ref (o + 3)), (1, .ref (o + a)), (2, .int (nI (0))), (3, .int (nI (p))), (4, .int (nI (last)))]) dX5_nextChoice_131 (by decide) rfl ?_
            refine mm_iload dX5_nextChoice_133 5 rfl ?_
            refine mn_if_ne (tgt := 146) dX5_nextChoice_135 (by decide) (by omega) (fun c135 => ?_) (fun c135 => ?_)
            · first | exact absurd rfl c135 | exact absurd c135 (by decide)
            · refine mm_iload dX5_nextChoice_138 1 rfl ?_
              refine rm_callSr (As := [.int (nI (cc))]) (rest := []) (d2 := 0) dX5_nextChoice_140 zc_X5_195 rfl rfl (Nat.le_of_ble_eq_true rfl) (Nat.le_of_ble_eq_true rfl) (by decide) (cR_itemForm (by omega)) ?_
              refine mm_goto (tgt := 148) dX5_nextChoice_143 (by decide) ?_
              refine mm_istore (L' := [(11, .int (nI (if_ cc))), (10, .int (nI (k))), (9, .int (nI (cc))), (8, .int (nI (M))), (7, .int (nI (18))), (6, .int (nI (1))), (5, .int (nI (0))), (0, .ref (o + 3)), (1, .ref (o + a)), (2, .int (nI (0))), (3, .int (nI (p))), (4, .int (nI (last)))]) dX5_nextChoice_148 (by decide) rfl ?_
              refine mm_aload_n dX5_nextChoice_150 rfl 7 rfl ?_
              refine cm_getR (b := 4) dX5_nextChoice_151 ha zr_X5_14 (by decide) rfl rfl rfl ?_
              refine cm_getR (b := 10) dX5_nextChoice_154 ha zr_X5_54 (by decide) rfl rfl rfl ?_
              refine mm_iload dX5_nextChoice_157 1 rfl ?_
              refine mm_iload dX5_nextChoice_159 0 rfl ?_
              refine mm_iload_n dX5_nextChoice_161 rfl 10 rfl ?_
              have hkf : kf_ w (gd_ sg) [] p cc = some (k, if_ cc) := by show (ic_ w (gd_ sg) cc p).map _ = _; rw [hic]; rfl
              obtain ⟨⟨hk6, hf19⟩, hiff⟩ := nd_mask hrq.1 hrk hwf hnn hp hcm hkf hmp
              refine cm_callVr (As := [.int (nI (k)), .int (nI (if_ cc)), .int (nI (p))]) (rest := []) (d2 := 1) dX5_nextChoice_162 ha (by decide) rfl zz_clX7 zc_X5_198 zs_X7_endsOf rfl rfl (Nat.le_of_ble_eq_true rfl) (Nat.le_of_ble_eq_true rfl) (by decide) (cs_endsOf ha hrq.1.1.2.1.1 hk6 hf19 (by omega)) ?_
              refine mm_iload dX5_nextChoice_165 3 rfl ?_
              refine mn_iand dX5_nextChoice_167 ?_
              refine mn_if_eq (tgt := 174) dX5_nextChoice_168 (by decide) (and_r (by omega)) (fun c168 => ?_) (fun c168 => ?_)
              · have hno : nd_ w sg (gd_ sg) ([]) p cc = [] := Classical.not_not.mp (fun z => absurd c168 (hiff.mpr z))
                refine mn_iinc (m := 1) (L' := [(9, .int (nI (cc + 1))), (11, .int (nI (if_ cc))), (10, .int (nI (k))), (8, .int (nI (M))), (7, .int (nI (18))), (6, .int (nI (1))), (5, .int (nI (0))), (0, .ref (o + 3)), (1, .ref (o + a)), (2, .int (nI (0))), (3, .int (nI (p))), (4, .int (nI (last)))]) dX5_nextChoice_174 (by decide) 2 rfl (by decide) rfl ?_
                refine mm_goto (tgt := 100) dX5_nextChoice_177 (by decide) ?_
                refine mn_sub [0, 3, 4, 5, 6, 7, 8, 9, 10, 11] rfl ?_
                exact ih (cc + 1) (by omega) (by omega) (by omega) (fun c a1 a2 a3 => by
                  by_cases e : c = cc
                  · rw [e]; exact hno
                  · exact h4 c a1 (by omega) a3)
              · refine mm_iload dX5_nextChoice_171 2 rfl ?_
                exact mm_iret dX5_nextChoice_173 rfl (⟨rfl, cc, rfl, Or.inr ⟨hcm, h3, hiff.mp c168, h4⟩⟩)
  refine mm_aload_n dX5_nextChoice_0 rfl 0 rfl ?_
  refine cm_getR (b := 4) dX5_nextChoice_1 ha zr_X5_14 (by decide) rfl rfl rfl ?_
  refine mm_iload_n dX5_nextChoice_4 rfl 2 rfl ?_
  refine cm_callVr (As := [.int (nI (0))]) (rest := []) (d2 := 0) dX5_nextChoice_5 ha (by decide) rfl zz_clX0 zc_X5_112 zs_X0_sortOf rfl rfl (Nat.le_of_ble_eq_true rfl) (Nat.le_of_ble_eq_true rfl) (by decide) (cc_sortOf ha (by omega)) ?_
  refine mn_top (u := .int (nI (0))) (congrArg Value.int (by rw [if_pos (by omega)]; exact hrq.2.1.1)) ?_
  refine mm_istore (L' := [(5, .int (nI (0))), (0, .ref (o + 3)), (1, .ref (o + a)), (2, .int (nI (0))), (3, .int (nI (p))), (4, .int (nI (last)))]) dX5_nextChoice_8 (by decide) rfl ?_
  refine mm_iload dX5_nextChoice_10 0 rfl ?_
  refine mm_iconst (v := nI 2) dX5_nextChoice_12 (by decide) ?_
  refine mn_icmp_ne (tgt := 21) dX5_nextChoice_13 (by decide) (by omega) (by omega) (fun c13 => ?_) (fun c13 => ?_)
  · refine mm_iload dX5_nextChoice_21 0 rfl ?_
    refine mm_iconst (v := nI 3) dX5_nextChoice_23 (by decide) ?_
    refine mn_icmp_ne (tgt := 32) dX5_nextChoice_24 (by decide) (by omega) (by omega) (fun c24 => ?_) (fun c24 => ?_)
    · refine mm_iconst (v := nI 1) dX5_nextChoice_32 (by decide) ?_
      refine mm_istore (L' := [(6, .int (nI (1))), (5, .int (nI (0))), (0, .ref (o + 3)), (1, .ref (o + a)), (2, .int (nI (0))), (3, .int (nI (p))), (4, .int (nI (last)))]) dX5_nextChoice_33 (by decide) rfl ?_
      refine mm_iload dX5_nextChoice_35 1 rfl ?_
      refine mm_iconst (v := nI 1) dX5_nextChoice_37 (by decide) ?_
      refine mn_icmp_ne (tgt := 46) dX5_nextChoice_38 (by decide) (by omega) (by omega) (fun c38 => ?_) (fun c38 => ?_)
      · refine mm_iload dX5_nextChoice_46 1 rfl ?_
        refine mm_iconst (v := nI 2) dX5_nextChoice_48 (by decide) ?_
        refine mn_icmp_ne (tgt := 57) dX5_nextChoice_49 (by decide) (by omega) (by omega) (fun c49 => ?_) (fun c49 => ?_)
        · refine mm_iload dX5_nextChoice_57 1 rfl ?_
          refine mm_iconst (v := nI 3) dX5_nextChoice_59 (by decide) ?_
          refine mn_icmp_ne (tgt := 68) dX5_nextChoice_60 (by decide) (by omega) (by omega) (fun c60 => ?_) (fun c60 => ?_)
          · refine mm_bipush (v := nI 18) dX5_nextChoice_68 (by decide) ?_
            refine mm_istore (L' := [(7, .int (nI (18))), (6, .int (nI (1))), (5, .int (nI (0))), (0, .ref (o + 3)), (1, .ref (o + a)), (2, .int (nI (0))), (3, .int (nI (p))), (4, .int (nI (last)))]) dX5_nextChoice_70 (by decide) rfl ?_
            refine mm_aload_n dX5_nextChoice_72 rfl 3 rfl ?_
            refine cm_getR (b := 4) dX5_nextChoice_73 ha zr_X5_14 (by decide) rfl rfl rfl ?_
            refine mm_aload_n dX5_nextChoice_76 rfl 3 rfl ?_
            refine cm_getR (b := 4) dX5_nextChoice_77 ha zr_X5_14 (by decide) rfl rfl rfl ?_
            refine mm_iload_n dX5_nextChoice_80 rfl 5 rfl ?_
            refine cm_callVr (As := [.int (nI (0))]) (rest := [.ref (o + 4)]) (d2 := 0) dX5_nextChoice_81 ha (by decide) rfl zz_clX0 zc_X5_177 zs_X0_restOf rfl rfl (Nat.le_of_ble_eq_true rfl) (Nat.le_of_ble_eq_true rfl) (by decide) (cc_restOf ha (by omega)) ?_
            refine mn_top (u := .int (nI (0))) (congrArg Value.int (by rw [if_pos (by omega)]; exact hrq.2.1.2.1)) ?_
            refine cm_callVr (As := [.int (nI (0))]) (rest := []) (d2 := 0) dX5_nextChoice_84 ha (by decide) rfl zz_clX0 zc_X5_180 zs_X0_placesOf rfl rfl (Nat.le_of_ble_eq_true rfl) (Nat.le_of_ble_eq_true rfl) (by decide) (cc_placesOf ha (by omega)) ?_
            refine mn_top (u := .int (nI (M))) (congrArg Value.int (by rw [if_pos (by omega)]; exact hM)) ?_
            refine mm_istore (L' := [(8, .int (nI (M))), (7, .int (nI (18))), (6, .int (nI (1))), (5, .int (nI (0))), (0, .ref (o + 3)), (1, .ref (o + a)), (2, .int (nI (0))), (3, .int (nI (p))), (4, .int (nI (last)))]) dX5_nextChoice_87 (by decide) rfl ?_
            refine mm_iload dX5_nextChoice_89 2 rfl ?_
            refine mm_iload dX5_nextChoice_91 8 rfl ?_
            refine mm_iconst (v := nI 1) dX5_nextChoice_93 (by decide) ?_
            refine mn_iadd dX5_nextChoice_94 ?_
            refine mm_mmax dX5_nextChoice_95 zc_X5_183 (Nat.le_of_ble_eq_true rfl) ?_
            refine mn_top (u := .int (nI (if 1 < last + 1 then last + 1 else 1))) (congrArg Value.int (mx_n (by omega) (by omega))) ?_
            refine mm_istore (L' := [(9, .int (nI (if 1 < last + 1 then last + 1 else 1))), (8, .int (nI (M))), (7, .int (nI (18))), (6, .int (nI (1))), (5, .int (nI (0))), (0, .ref (o + 3)), (1, .ref (o + a)), (2, .int (nI (0))), (3, .int (nI (p))), (4, .int (nI (last)))]) dX5_nextChoice_98 (by decide) rfl ?_
            refine mn_sub [0, 1, 2, 3, 4, 5, 6, 7, 8, 9] rfl ?_
            have hc1 : 1 ≤ (if 1 < last + 1 then last + 1 else 1) := by split <;> omega
            have hc2 : last < (if 1 < last + 1 then last + 1 else 1) := by split <;> omega
            have hc3 : (if 1 < last + 1 then last + 1 else 1) ≤ 19 := by split <;> omega
            have hc4 : ∀ c, last < c → c < (if 1 < last + 1 then last + 1 else 1) → c ∈ cl_ ([]) → nd_ w sg (gd_ sg) ([]) p c = [] := fun c a1 a2 a3 => by have := (hcl c).mp a3; exfalso; split at a2 <;> omega
            generalize (if 1 < last + 1 then last + 1 else 1) = cc at hc1 hc2 hc3 hc4 ⊢
            by_cases hc5 : 18 < cc
            · exact en cc (by omega) hc5 hc4
            · exact lp (18 + 1 - cc) cc (by omega) hc1 hc2 hc4
          · first | exact absurd rfl c60 | exact absurd c60 (by decide)
        · first | exact absurd rfl c49 | exact absurd c49 (by decide)
      · first | exact absurd rfl c38 | exact absurd c38 (by decide)
    · first | exact absurd rfl c24 | exact absurd c24 (by decide)
  · first | exact absurd rfl c13 | exact absurd c13 (by decide)
set_option maxRecDepth 100000 in
set_option maxHeartbeats 4000000 in
theorem cR_nextU {l : Launch} {D : va_G} {aa : Nat → ClassId} {b0 : Nat} {h : mm_H} {o : Nat} {X : Nat → Nat → Int32} {Y : Nat → Nat → Int64} {rl : Option Nat} {w : ro_w} {sg a dt : Nat} {E U P H PL RS CO AL LI : Nat → Nat} {t p last : Nat} {u : gK} {r : List gK} (ha : cm_at o X Y rl h) (hva : vA a) (hrq : rq_ X w sg a dt E U P H PL RS CO AL LI) (hrk : rk_ w sg (gd_ sg)) (hct : ct_ X w sg (gd_ sg) (u :: r) t) (hwf : wf_ (gd_ sg) (u :: r)) (hp : p < w.1) (hlast : last ≤ 18) (hu : u.1 = 1) : mm_V (zz_K l D aa b0) 2 yX5_nextChoice cX5_nextChoice 12 (some .int) 0 [(0, .ref (o + 3)), (1, .ref (o + a)), (2, .int (nI (t))), (3, .int (nI (p))), (4, .int (nI (last)))] [] h 0 0 (fun rv h' => h' = h ∧ ∃ ch : Nat, rv = some (.int (nI ch)) ∧ ((ch = 0 ∧ ∀ c, last < c → c ∈ cl_ (u :: r) → nd_ w sg (gd_ sg) (u :: r) p c = []) ∨ (ch ∈ cl_ (u :: r) ∧ last < ch ∧ nd_ w sg (gd_ sg) (u :: r) p ch ≠ [] ∧ ∀ c, last < c → c < ch → c ∈ cl_ (u :: r) → nd_ w sg (gd_ sg) (u :: r) p c = []))) := by
  have h24 := hrk.1
  obtain ⟨ht8, -⟩ := ct_M hrq.2.1 hct
  obtain ⟨-, h5, h6, -, -, t1, ht1, h8, hct1⟩ := id hct
  obtain ⟨-, M, hM, hmp⟩ := ct_M hrq.2.1 hct1
  have h6 := h6 (by omega)
  rw [if_neg (by omega), hu] at h5
  have hnn : nn_ w (u :: r) p := by show u.1 = 1 ∨ u.1 = 2 ∨ u.1 = 3; omega
  have hM27 := hmp.1
  have hcl : ∀ c, c ∈ cl_ (u :: r) ↔ 1 ≤ c ∧ c ≤ 11 := by
    intro c; show c ∈ fs_ u.1 ↔ _; rw [hu]; simp [fs_]; omega
  have en : ∀ cc : Nat, cc < 100 → 11 < cc → (∀ c, last < c → c < cc → c ∈ cl_ (u :: r) → nd_ w sg (gd_ sg) (u :: r) p c = []) → mm_V (zz_K l D aa b0) 2 yX5_nextChoice cX5_nextChoice 12 (some .int) 100 [(9, .int (nI (cc))), (8, .int (nI (M))), (7, .int (nI (11))), (6, .int (nI (1))), (5, .int (nI (1))), (0, .ref (o + 3)), (1, .ref (o + a)), (2, .int (nI (t))), (3, .int (nI (p))), (4, .int (nI (last)))] [] h 0 0 (fun rv h' => h' = h ∧ ∃ ch : Nat, rv = some (.int (nI ch)) ∧ ((ch = 0 ∧ ∀ c, last < c → c ∈ cl_ (u :: r) → nd_ w sg (gd_ sg) (u :: r) p c = []) ∨ (ch ∈ cl_ (u :: r) ∧ last < ch ∧ nd_ w sg (gd_ sg) (u :: r) p ch ≠ [] ∧ ∀ c, last < c → c < ch → c ∈ cl_ (u :: r) → nd_ w sg (gd_ sg) (u :: r) p c = []))) := by
    intro cc hc0 hc1 hc2
    refine mm_iload dX5_nextChoice_100 0 rfl ?_
    refine mm_iload dX5_nextChoice_102 2 rfl ?_
    refine mn_icmp_gt (tgt := 180) dX5_nextChoice_104 (by decide) (by omega) (by omega) (fun c104 => ?_) (fun c104 => ?_)
    · refine mm_iconst (v := nI 0) dX5_nextChoice_180 (by decide) ?_
      exact mm_iret dX5_nextChoice_181 rfl (⟨rfl, 0, rfl, Or.inl ⟨rfl, fun c h1 h2 => hc2 c h1 (by have := (hcl c).mp h2; omega) h2⟩⟩)
    · omega
  have lp : ∀ n cc : Nat, cc + n = 11 + 1 → 1 ≤ cc → last < cc → (∀ c, last < c → c < cc → c ∈ cl_ (u :: r) → nd_ w sg (gd_ sg) (u :: r) p c = []) → mm_V (zz_K l D aa b0) 2 yX5_nextChoice cX5_nextChoice 12 (some .int) 100 [(9, .int (nI (cc))), (8, .int (nI (M))), (7, .int (nI (11))), (6, .int (nI (1))), (5, .int (nI (1))), (0, .ref (o + 3)), (1, .ref (o + a)), (2, .int (nI (t))), (3, .int (nI (p))), (4, .int (nI (last)))] [] h 0 0 (fun rv h' => h' = h ∧ ∃ ch : Nat, rv = some (.int (nI ch)) ∧ ((ch = 0 ∧ ∀ c, last < c → c ∈ cl_ (u :: r) → nd_ w sg (gd_ sg) (u :: r) p c = []) ∨ (ch ∈ cl_ (u :: r) ∧ last < ch ∧ nd_ w sg (gd_ sg) (u :: r) p ch ≠ [] ∧ ∀ c, last < c → c < ch → c ∈ cl_ (u :: r) → nd_ w sg (gd_ sg) (u :: r) p c = []))) := by
    intro n
    induction n with
    | zero =>
      intro cc h1 h2 h3 h4
      exact en cc (by omega) (by omega) h4
    | succ n ih =>
      intro cc h1 h2 h3 h4
      have hcm : cc ∈ cl_ (u :: r) := (hcl cc).mpr (by omega)
      refine mm_iload dX5_nextChoice_100 0 rfl ?_
      refine mm_iload dX5_nextChoice_102 2 rfl ?_
      refine mn_icmp_gt (tgt := 180) dX5_nextChoice_104 (by decide) (by omega) (by omega) (fun c104 => ?_) (fun c104 => ?_)
      · omega
      · refine mm_iload dX5_nextChoice_107 4 rfl ?_
        refine mn_if_ne (tgt := 123) dX5_nextChoice_109 (by decide) (by omega) (fun c109 => ?_) (fun c109 => ?_)
        · refine mm_aload_n dX5_nextChoice_123 rfl 5 rfl ?_
          refine cm_getR (b := 4) dX5_nextChoice_124 ha zr_X5_14 (by decide) rfl rfl rfl ?_
          refine mm_iload_n dX5_nextChoice_127 rfl 7 rfl ?_
          refine cm_callVr (As := [.int (nI (t))]) (rest := []) (d2 := 0) dX5_nextChoice_128 ha (by decide) rfl zz_clX0 zc_X5_192 zs_X0_kindOf rfl rfl (Nat.le_of_ble_eq_true rfl) (Nat.le_of_ble_eq_true rfl) (by decide) (cc_kindOf ha (by omega)) ?_
          refine mn_top (u := .int (nI (u.2.1))) (congrArg Value.int (by rw [if_pos ht8]; exact h6)) ?_
          refine mm_istore (L' := [(10, .int (nI (u.2.1))), (9, .int (nI (cc))), (8, .int (nI (M))), (7, .int (nI (11))), (6, .int (nI (1))), (5, .int (nI (1))), (0, .ref (o + 3)), (1, .ref (o + a)), (2, .int (nI (t))), (3, .int (nI (p))), (4, .int (nI (last)))]) dX5_nextChoice_131 (by decide) rfl ?_
          refine mm_iload dX5_nextChoice_133 5 rfl ?_
          refine mn_if_ne (tgt := 146) dX5_nextChoice_135 (by decide) (by omega) (fun c135 => ?_) (fun c135 => ?_)
          · refine mm_iload dX5_nextChoice_146 1 rfl ?_
            refine mm_istore (L' := [(11, .int (nI (cc))), (10, .int (nI (u.2.1))), (9, .int (nI (cc))), (8, .int (nI (M))), (7, .int (nI (11))), (6, .int (nI (1))), (5, .int (nI (1))), (0, .ref (o + 3)), (1, .ref (o + a)), (2, .int (nI (t))), (3, .int (nI (p))), (4, .int (nI (last)))]) dX5_nextChoice_148 (by decide) rfl ?_
            refine mm_aload_n dX5_nextChoice_150 rfl 7 rfl ?_
            refine cm_getR (b := 4) dX5_nextChoice_151 ha zr_X5_14 (by decide) rfl rfl rfl ?_
            refine cm_getR (b := 10) dX5_nextChoice_154 ha zr_X5_54 (by decide) rfl rfl rfl ?_
            refine mm_iload dX5_nextChoice_157 1 rfl ?_
            refine mm_iload dX5_nextChoice_159 0 rfl ?_
            refine mm_iload_n dX5_nextChoice_161 rfl 10 rfl ?_
            have hkf : kf_ w (gd_ sg) (u :: r) p cc = some (u.2.1, cc) := rfl
            obtain ⟨⟨hk6, hf19⟩, hiff⟩ := nd_mask hrq.1 hrk hwf hnn hp hcm hkf hmp
            refine cm_callVr (As := [.int (nI (u.2.1)), .int (nI (cc)), .int (nI (p))]) (rest := []) (d2 := 1) dX5_nextChoice_162 ha (by decide) rfl zz_clX7 zc_X5_198 zs_X7_endsOf rfl rfl (Nat.le_of_ble_eq_true rfl) (Nat.le_of_ble_eq_true rfl) (by decide) (cs_endsOf ha hrq.1.1.2.1.1 hk6 hf19 (by omega)) ?_
            refine mm_iload dX5_nextChoice_165 3 rfl ?_
            refine mn_iand dX5_nextChoice_167 ?_
            refine mn_if_eq (tgt := 174) dX5_nextChoice_168 (by decide) (and_r (by omega)) (fun c168 => ?_) (fun c168 => ?_)
            · have hno : nd_ w sg (gd_ sg) (u :: r) p cc = [] := Classical.not_not.mp (fun z => absurd c168 (hiff.mpr z))
              refine mn_iinc (m := 1) (L' := [(9, .int (nI (cc + 1))), (11, .int (nI (cc))), (10, .int (nI (u.2.1))), (8, .int (nI (M))), (7, .int (nI (11))), (6, .int (nI (1))), (5, .int (nI (1))), (0, .ref (o + 3)), (1, .ref (o + a)), (2, .int (nI (t))), (3, .int (nI (p))), (4, .int (nI (last)))]) dX5_nextChoice_174 (by decide) 2 rfl (by decide) rfl ?_
              refine mm_goto (tgt := 100) dX5_nextChoice_177 (by decide) ?_
              refine mn_sub [0, 3, 4, 5, 6, 7, 8, 9, 10, 11] rfl ?_
              exact ih (cc + 1) (by omega) (by omega) (by omega) (fun c a1 a2 a3 => by
                by_cases e : c = cc
                · rw [e]; exact hno
                · exact h4 c a1 (by omega) a3)
            · refine mm_iload dX5_nextChoice_171 2 rfl ?_
              exact mm_iret dX5_nextChoice_173 rfl (⟨rfl, cc, rfl, Or.inr ⟨hcm, h3, hiff.mp c168, h4⟩⟩)
          · first | exact absurd rfl c135 | exact absurd c135 (by decide)
        · first | exact absurd rfl c109 | exact absurd c109 (by decide)
  refine mm_aload_n dX5_nextChoice_0 rfl 0 rfl ?_
  refine cm_getR (b := 4) dX5_nextChoice_1 ha zr_X5_14 (by decide) rfl rfl rfl ?_
  refine mm_iload_n dX5_nextChoice_4 rfl 2 rfl ?_
  refine cm_callVr (As := [.int (nI (t))]) (rest := []) (d2 := 0) dX5_nextChoice_5 ha (by decide) rfl zz_clX0 zc_X5_112 zs_X0_sortOf rfl rfl (Nat.le_of_ble_eq_true rfl) (Nat.le_of_ble_eq_true rfl) (by decide) (cc_sortOf ha (by omega)) ?_
  refine mn_top (u := .int (nI (1))) (congrArg Value.int (by rw [if_pos (by omega)]; exact h5)) ?_
  refine mm_istore (L' := [(5, .int (nI (1))), (0, .ref (o + 3)), (1, .ref (o + a)), (2, .int (nI (t))), (3, .int (nI (p))), (4, .int (nI (last)))]) dX5_nextChoice_8 (by decide) rfl ?_
  refine mm_iload dX5_nextChoice_10 0 rfl ?_
  refine mm_iconst (v := nI 2) dX5_nextChoice_12 (by decide) ?_
  refine mn_icmp_ne (tgt := 21) dX5_nextChoice_13 (by decide) (by omega) (by omega) (fun c13 => ?_) (fun c13 => ?_)
  · refine mm_iload dX5_nextChoice_21 0 rfl ?_
    refine mm_iconst (v := nI 3) dX5_nextChoice_23 (by decide) ?_
    refine mn_icmp_ne (tgt := 32) dX5_nextChoice_24 (by decide) (by omega) (by omega) (fun c24 => ?_) (fun c24 => ?_)
    · refine mm_iconst (v := nI 1) dX5_nextChoice_32 (by decide) ?_
      refine mm_istore (L' := [(6, .int (nI (1))), (5, .int (nI (1))), (0, .ref (o + 3)), (1, .ref (o + a)), (2, .int (nI (t))), (3, .int (nI (p))), (4, .int (nI (last)))]) dX5_nextChoice_33 (by decide) rfl ?_
      refine mm_iload dX5_nextChoice_35 1 rfl ?_
      refine mm_iconst (v := nI 1) dX5_nextChoice_37 (by decide) ?_
      refine mn_icmp_ne (tgt := 46) dX5_nextChoice_38 (by decide) (by omega) (by omega) (fun c38 => ?_) (fun c38 => ?_)
      · first | exact absurd rfl c38 | exact absurd c38 (by decide)
      · refine mm_bipush (v := nI 11) dX5_nextChoice_41 (by decide) ?_
        refine mm_goto (tgt := 70) dX5_nextChoice_43 (by decide) ?_
        refine mm_istore (L' := [(7, .int (nI (11))), (6, .int (nI (1))), (5, .int (nI (1))), (0, .ref (o + 3)), (1, .ref (o + a)), (2, .int (nI (t))), (3, .int (nI (p))), (4, .int (nI (last)))]) dX5_nextChoice_70 (by decide) rfl ?_
        refine mm_aload_n dX5_nextChoice_72 rfl 3 rfl ?_
        refine cm_getR (b := 4) dX5_nextChoice_73 ha zr_X5_14 (by decide) rfl rfl rfl ?_
        refine mm_aload_n dX5_nextChoice_76 rfl 3 rfl ?_
        refine cm_getR (b := 4) dX5_nextChoice_77 ha zr_X5_14 (by decide) rfl rfl rfl ?_
        refine mm_iload_n dX5_nextChoice_80 rfl 5 rfl ?_
        refine cm_callVr (As := [.int (nI (t))]) (rest := [.ref (o + 4)]) (d2 := 0) dX5_nextChoice_81 ha (by decide) rfl zz_clX0 zc_X5_177 zs_X0_restOf rfl rfl (Nat.le_of_ble_eq_true rfl) (Nat.le_of_ble_eq_true rfl) (by decide) (cc_restOf ha (by omega)) ?_
        refine mn_top (u := .int (nI (t1))) (congrArg Value.int (by rw [if_pos (by omega)]; exact h8)) ?_
        refine cm_callVr (As := [.int (nI (t1))]) (rest := []) (d2 := 0) dX5_nextChoice_84 ha (by decide) rfl zz_clX0 zc_X5_180 zs_X0_placesOf rfl rfl (Nat.le_of_ble_eq_true rfl) (Nat.le_of_ble_eq_true rfl) (by decide) (cc_placesOf ha (by omega)) ?_
        refine mn_top (u := .int (nI (M))) (congrArg Value.int (by rw [if_pos (by omega)]; exact hM)) ?_
        refine mm_istore (L' := [(8, .int (nI (M))), (7, .int (nI (11))), (6, .int (nI (1))), (5, .int (nI (1))), (0, .ref (o + 3)), (1, .ref (o + a)), (2, .int (nI (t))), (3, .int (nI (p))), (4, .int (nI (last)))]) dX5_nextChoice_87 (by decide) rfl ?_
        refine mm_iload dX5_nextChoice_89 2 rfl ?_
        refine mm_iload dX5_nextChoice_91 8 rfl ?_
        refine mm_iconst (v := nI 1) dX5_nextChoice_93 (by decide) ?_
        refine mn_iadd dX5_nextChoice_94 ?_
        refine mm_mmax dX5_nextChoice_95 zc_X5_183 (Nat.le_of_ble_eq_true rfl) ?_
        refine mn_top (u := .int (nI (if 1 < last + 1 then last + 1 else 1))) (congrArg Value.int (mx_n (by omega) (by omega))) ?_
        refine mm_istore (L' := [(9, .int (nI (if 1 < last + 1 then last + 1 else 1))), (8, .int (nI (M))), (7, .int (nI (11))), (6, .int (nI (1))), (5, .int (nI (1))), (0, .ref (o + 3)), (1, .ref (o + a)), (2, .int (nI (t))), (3, .int (nI (p))), (4, .int (nI (last)))]) dX5_nextChoice_98 (by decide) rfl ?_
        refine mn_sub [0, 1, 2, 3, 4, 5, 6, 7, 8, 9] rfl ?_
        have hc1 : 1 ≤ (if 1 < last + 1 then last + 1 else 1) := by split <;> omega
        have hc2 : last < (if 1 < last + 1 then last + 1 else 1) := by split <;> omega
        have hc3 : (if 1 < last + 1 then last + 1 else 1) ≤ 19 := by split <;> omega
        have hc4 : ∀ c, last < c → c < (if 1 < last + 1 then last + 1 else 1) → c ∈ cl_ (u :: r) → nd_ w sg (gd_ sg) (u :: r) p c = [] := fun c a1 a2 a3 => by have := (hcl c).mp a3; exfalso; split at a2 <;> omega
        generalize (if 1 < last + 1 then last + 1 else 1) = cc at hc1 hc2 hc3 hc4 ⊢
        by_cases hc5 : 11 < cc
        · exact en cc (by omega) hc5 hc4
        · exact lp (11 + 1 - cc) cc (by omega) hc1 hc2 hc4
    · first | exact absurd rfl c24 | exact absurd c24 (by decide)
  · first | exact absurd rfl c13 | exact absurd c13 (by decide)
set_option maxRecDepth 100000 in
set_option maxHeartbeats 4000000 in
theorem cR_nextP {l : Launch} {D : va_G} {aa : Nat → ClassId} {b0 : Nat} {h : mm_H} {o : Nat} {X : Nat → Nat → Int32} {Y : Nat → Nat → Int64} {rl : Option Nat} {w : ro_w} {sg a dt : Nat} {E U P H PL RS CO AL LI : Nat → Nat} {t p last : Nat} {u : gK} {r : List gK} (ha : cm_at o X Y rl h) (hva : vA a) (hrq : rq_ X w sg a dt E U P H PL RS CO AL LI) (hrk : rk_ w sg (gd_ sg)) (hct : ct_ X w sg (gd_ sg) (u :: r) t) (hwf : wf_ (gd_ sg) (u :: r)) (hp : p < w.1) (hlast : last ≤ 18) (hu : u.1 = 2) : mm_V (zz_K l D aa b0) 2 yX5_nextChoice cX5_nextChoice 12 (some .int) 0 [(0, .ref (o + 3)), (1, .ref (o + a)), (2, .int (nI (t))), (3, .int (nI (p))), (4, .int (nI (last)))] [] h 0 0 (fun rv h' => h' = h ∧ ∃ ch : Nat, rv = some (.int (nI ch)) ∧ ((ch = 0 ∧ ∀ c, last < c → c ∈ cl_ (u :: r) → nd_ w sg (gd_ sg) (u :: r) p c = []) ∨ (ch ∈ cl_ (u :: r) ∧ last < ch ∧ nd_ w sg (gd_ sg) (u :: r) p ch ≠ [] ∧ ∀ c, last < c → c < ch → c ∈ cl_ (u :: r) → nd_ w sg (gd_ sg) (u :: r) p c = []))) := by
  have h24 := hrk.1
  obtain ⟨ht8, -⟩ := ct_M hrq.2.1 hct
  obtain ⟨-, h5, h6, -, -, t1, ht1, h8, hct1⟩ := id hct
  obtain ⟨-, M, hM, hmp⟩ := ct_M hrq.2.1 hct1
  have h6 := h6 (by omega)
  rw [if_neg (by omega), hu] at h5
  have hnn : nn_ w (u :: r) p := by show u.1 = 1 ∨ u.1 = 2 ∨ u.1 = 3; omega
  have hM27 := hmp.1
  have hcl : ∀ c, c ∈ cl_ (u :: r) ↔ 13 ≤ c ∧ c ≤ 15 := by
    intro c; show c ∈ fs_ u.1 ↔ _; rw [hu]; simp [fs_]; omega
  have en : ∀ cc : Nat, cc < 100 → 15 < cc → (∀ c, last < c → c < cc → c ∈ cl_ (u :: r) → nd_ w sg (gd_ sg) (u :: r) p c = []) → mm_V (zz_K l D aa b0) 2 yX5_nextChoice cX5_nextChoice 12 (some .int) 100 [(9, .int (nI (cc))), (8, .int (nI (M))), (7, .int (nI (15))), (6, .int (nI (13))), (5, .int (nI (2))), (0, .ref (o + 3)), (1, .ref (o + a)), (2, .int (nI (t))), (3, .int (nI (p))), (4, .int (nI (last)))] [] h 0 0 (fun rv h' => h' = h ∧ ∃ ch : Nat, rv = some (.int (nI ch)) ∧ ((ch = 0 ∧ ∀ c, last < c → c ∈ cl_ (u :: r) → nd_ w sg (gd_ sg) (u :: r) p c = []) ∨ (ch ∈ cl_ (u :: r) ∧ last < ch ∧ nd_ w sg (gd_ sg) (u :: r) p ch ≠ [] ∧ ∀ c, last < c → c < ch → c ∈ cl_ (u :: r) → nd_ w sg (gd_ sg) (u :: r) p c = []))) := by
    intro cc hc0 hc1 hc2
    refine mm_iload dX5_nextChoice_100 0 rfl ?_
    refine mm_iload dX5_nextChoice_102 2 rfl ?_
    refine mn_icmp_gt (tgt := 180) dX5_nextChoice_104 (by decide) (by omega) (by omega) (fun c104 => ?_) (fun c104 => ?_)
    · refine mm_iconst (v := nI 0) dX5_nextChoice_180 (by decide) ?_
      exact mm_iret dX5_nextChoice_181 rfl (⟨rfl, 0, rfl, Or.inl ⟨rfl, fun c h1 h2 => hc2 c h1 (by have := (hcl c).mp h2; omega) h2⟩⟩)
    · omega
  have lp : ∀ n cc : Nat, cc + n = 15 + 1 → 13 ≤ cc → last < cc → (∀ c, last < c → c < cc → c ∈ cl_ (u :: r) → nd_ w sg (gd_ sg) (u :: r) p c = []) → mm_V (zz_K l D aa b0) 2 yX5_nextChoice cX5_nextChoice 12 (some .int) 100 [(9, .int (nI (cc))), (8, .int (nI (M))), (7, .int (nI (15))), (6, .int (nI (13))), (5, .int (nI (2))), (0, .ref (o + 3)), (1, .ref (o + a)), (2, .int (nI (t))), (3, .int (nI (p))), (4, .int (nI (last)))] [] h 0 0 (fun rv h' => h' = h ∧ ∃ ch : Nat, rv = some (.int (nI ch)) ∧ ((ch = 0 ∧ ∀ c, last < c → c ∈ cl_ (u :: r) → nd_ w sg (gd_ sg) (u :: r) p c = []) ∨ (ch ∈ cl_ (u :: r) ∧ last < ch ∧ nd_ w sg (gd_ sg) (u :: r) p ch ≠ [] ∧ ∀ c, last < c → c < ch → c ∈ cl_ (u :: r) → nd_ w sg (gd_ sg) (u :: r) p c = []))) := by
    intro n
    induction n with
    | zero =>
      intro cc h1 h2 h3 h4
      exact en cc (by omega) (by omega) h4
    | succ n ih =>
      intro cc h1 h2 h3 h4
      have hcm : cc ∈ cl_ (u :: r) := (hcl cc).mpr (by omega)
      refine mm_iload dX5_nextChoice_100 0 rfl ?_
      refine mm_iload dX5_nextChoice_102 2 rfl ?_
      refine mn_icmp_gt (tgt := 180) dX5_nextChoice_104 (by decide) (by omega) (by omega) (fun c104 => ?_) (fun c104 => ?_)
      · omega
      · refine mm_iload dX5_nextChoice_107 4 rfl ?_
        refine mn_if_ne (tgt := 123) dX5_nextChoice_109 (by decide) (by omega) (fun c109 => ?_) (fun c109 => ?_)
        · refine mm_aload_n dX5_nextChoice_123 rfl 5 rfl ?_
          refine cm_getR (b := 4) dX5_nextChoice_124 ha zr_X5_14 (by decide) rfl rfl rfl ?_
          refine mm_iload_n dX5_nextChoice_127 rfl 7 rfl ?_
          refine cm_callVr (As := [.int (nI (t))]) (rest := []) (d2 := 0) dX5_nextChoice_128 ha (by decide) rfl zz_clX0 zc_X5_192 zs_X0_kindOf rfl rfl (Nat.le_of_ble_eq_true rfl) (Nat.le_of_ble_eq_true rfl) (by decide) (cc_kindOf ha (by omega)) ?_
          refine mn_top (u := .int (nI (u.2.1))) (congrArg Value.int (by rw [if_pos ht8]; exact h6)) ?_
          refine mm_istore (L' := [(10, .int (nI (u.2.1))), (9, .int (nI (cc))), (8, .int (nI (M))), (7, .int (nI (15))), (6, .int (nI (13))), (5, .int (nI (2))), (0, .ref (o + 3)), (1, .ref (o + a)), (2, .int (nI (t))), (3, .int (nI (p))), (4, .int (nI (last)))]) dX5_nextChoice_131 (by decide) rfl ?_
          refine mm_iload dX5_nextChoice_133 5 rfl ?_
          refine mn_if_ne (tgt := 146) dX5_nextChoice_135 (by decide) (by omega) (fun c135 => ?_) (fun c135 => ?_)
          · refine mm_iload dX5_nextChoice_146 1 rfl ?_
            refine mm_istore (L' := [(11, .int (nI (cc))), (10, .int (nI (u.2.1))), (9, .int (nI (cc))), (8, .int (nI (M))), (7, .int (nI (15))), (6, .int (nI (13))), (5, .int (nI (2))), (0, .ref (o + 3)), (1, .ref (o + a)), (2, .int (nI (t))), (3, .int (nI (p))), (4, .int (nI (last)))]) dX5_nextChoice_148 (by decide) rfl ?_
            refine mm_aload_n dX5_nextChoice_150 rfl 7 rfl ?_
            refine cm_getR (b := 4) dX5_nextChoice_151 ha zr_X5_14 (by decide) rfl rfl rfl ?_
            refine cm_getR (b := 10) dX5_nextChoice_154 ha zr_X5_54 (by decide) rfl rfl rfl ?_
            refine mm_iload dX5_nextChoice_157 1 rfl ?_
            refine mm_iload dX5_nextChoice_159 0 rfl ?_
            refine mm_iload_n dX5_nextChoice_161 rfl 10 rfl ?_
            have hkf : kf_ w (gd_ sg) (u :: r) p cc = some (u.2.1, cc) := rfl
            obtain ⟨⟨hk6, hf19⟩, hiff⟩ := nd_mask hrq.1 hrk hwf hnn hp hcm hkf hmp
            refine cm_callVr (As := [.int (nI (u.2.1)), .int (nI (cc)), .int (nI (p))]) (rest := []) (d2 := 1) dX5_nextChoice_162 ha (by decide) rfl zz_clX7 zc_X5_198 zs_X7_endsOf rfl rfl (Nat.le_of_ble_eq_true rfl) (Nat.le_of_ble_eq_true rfl) (by decide) (cs_endsOf ha hrq.1.1.2.1.1 hk6 hf19 (by omega)) ?_
            refine mm_iload dX5_nextChoice_165 3 rfl ?_
            refine mn_iand dX5_nextChoice_167 ?_
            refine mn_if_eq (tgt := 174) dX5_nextChoice_168 (by decide) (and_r (by omega)) (fun c168 => ?_) (fun c168 => ?_)
            · have hno : nd_ w sg (gd_ sg) (u :: r) p cc = [] := Classical.not_not.mp (fun z => absurd c168 (hiff.mpr z))
              refine mn_iinc (m := 1) (L' := [(9, .int (nI (cc + 1))), (11, .int (nI (cc))), (10, .int (nI (u.2.1))), (8, .int (nI (M))), (7, .int (nI (15))), (6, .int (nI (13))), (5, .int (nI (2))), (0, .ref (o + 3)), (1, .ref (o + a)), (2, .int (nI (t))), (3, .int (nI (p))), (4, .int (nI (last)))]) dX5_nextChoice_174 (by decide) 2 rfl (by decide) rfl ?_
              refine mm_goto (tgt := 100) dX5_nextChoice_177 (by decide) ?_
              refine mn_sub [0, 3, 4, 5, 6, 7, 8, 9, 10, 11] rfl ?_
              exact ih (cc + 1) (by omega) (by omega) (by omega) (fun c a1 a2 a3 => by
                by_cases e : c = cc
                · rw [e]; exact hno
                · exact h4 c a1 (by omega) a3)
            · refine mm_iload dX5_nextChoice_171 2 rfl ?_
              exact mm_iret dX5_nextChoice_173 rfl (⟨rfl, cc, rfl, Or.inr ⟨hcm, h3, hiff.mp c168, h4⟩⟩)
          · first | exact absurd rfl c135 | exact absurd c135 (by decide)
        · first | exact absurd rfl c109 | exact absurd c109 (by decide)
  refine mm_aload_n dX5_nextChoice_0 rfl 0 rfl ?_
  refine cm_getR (b := 4) dX5_nextChoice_1 ha zr_X5_14 (by decide) rfl rfl rfl ?_
  refine mm_iload_n dX5_nextChoice_4 rfl 2 rfl ?_
  refine cm_callVr (As := [.int (nI (t))]) (rest := []) (d2 := 0) dX5_nextChoice_5 ha (by decide) rfl zz_clX0 zc_X5_112 zs_X0_sortOf rfl rfl (Nat.le_of_ble_eq_true rfl) (Nat.le_of_ble_eq_true rfl) (by decide) (cc_sortOf ha (by omega)) ?_
  refine mn_top (u := .int (nI (2))) (congrArg Value.int (by rw [if_pos (by omega)]; exact h5)) ?_
  refine mm_istore (L' := [(5, .int (nI (2))), (0, .ref (o + 3)), (1, .ref (o + a)), (2, .int (nI (t))), (3, .int (nI (p))), (4, .int (nI (last)))]) dX5_nextChoice_8 (by decide) rfl ?_
  refine mm_iload dX5_nextChoice_10 0 rfl ?_
  refine mm_iconst (v := nI 2) dX5_nextChoice_12 (by decide) ?_
  refine mn_icmp_ne (tgt := 21) dX5_nextChoice_13 (by decide) (by omega) (by omega) (fun c13 => ?_) (fun c13 => ?_)
  · first | exact absurd rfl c13 | exact absurd c13 (by decide)
  · refine mm_bipush (v := nI 13) dX5_nextChoice_16 (by decide) ?_
    refine mm_goto (tgt := 33) dX5_nextChoice_18 (by decide) ?_
    refine mm_istore (L' := [(6, .int (nI (13))), (5, .int (nI (2))), (0, .ref (o + 3)), (1, .ref (o + a)), (2, .int (nI (t))), (3, .int (nI (p))), (4, .int (nI (last)))]) dX5_nextChoice_33 (by decide) rfl ?_
    refine mm_iload dX5_nextChoice_35 1 rfl ?_
    refine mm_iconst (v := nI 1) dX5_nextChoice_37 (by decide) ?_
    refine mn_icmp_ne (tgt := 46) dX5_nextChoice_38 (by decide) (by omega) (by omega) (fun c38 => ?_) (fun c38 => ?_)
    · refine mm_iload dX5_nextChoice_46 1 rfl ?_
      refine mm_iconst (v := nI 2) dX5_nextChoice_48 (by decide) ?_
      refine mn_icmp_ne (tgt := 57) dX5_nextChoice_49 (by decide) (by omega) (by omega) (fun c49 => ?_) (fun c49 => ?_)
      · first | exact absurd rfl c49 | exact absurd c49 (by decide)
      · refine mm_bipush (v := nI 15) dX5_nextChoice_52 (by decide) ?_
        refine mm_goto (tgt := 70) dX5_nextChoice_54 (by decide) ?_
        refine mm_istore (L' := [(7, .int (nI (15))), (6, .int (nI (13))), (5, .int (nI (2))), (0, .ref (o + 3)), (1, .ref (o + a)), (2, .int (nI (t))), (3, .int (nI (p))), (4, .int (nI (last)))]) dX5_nextChoice_70 (by decide) rfl ?_
        refine mm_aload_n dX5_nextChoice_72 rfl 3 rfl ?_
        refine cm_getR (b := 4) dX5_nextChoice_73 ha zr_X5_14 (by decide) rfl rfl rfl ?_
        refine mm_aload_n dX5_nextChoice_76 rfl 3 rfl ?_
        refine cm_getR (b := 4) dX5_nextChoice_77 ha zr_X5_14 (by decide) rfl rfl rfl ?_
        refine mm_iload_n dX5_nextChoice_80 rfl 5 rfl ?_
        refine cm_callVr (As := [.int (nI (t))]) (rest := [.ref (o + 4)]) (d2 := 0) dX5_nextChoice_81 ha (by decide) rfl zz_clX0 zc_X5_177 zs_X0_restOf rfl rfl (Nat.le_of_ble_eq_true rfl) (Nat.le_of_ble_eq_true rfl) (by decide) (cc_restOf ha (by omega)) ?_
        refine mn_top (u := .int (nI (t1))) (congrArg Value.int (by rw [if_pos (by omega)]; exact h8)) ?_
        refine cm_callVr (As := [.int (nI (t1))]) (rest := []) (d2 := 0) dX5_nextChoice_84 ha (by decide) rfl zz_clX0 zc_X5_180 zs_X0_placesOf rfl rfl (Nat.le_of_ble_eq_true rfl) (Nat.le_of_ble_eq_true rfl) (by decide) (cc_placesOf ha (by omega)) ?_
        refine mn_top (u := .int (nI (M))) (congrArg Value.int (by rw [if_pos (by omega)]; exact hM)) ?_
        refine mm_istore (L' := [(8, .int (nI (M))), (7, .int (nI (15))), (6, .int (nI (13))), (5, .int (nI (2))), (0, .ref (o + 3)), (1, .ref (o + a)), (2, .int (nI (t))), (3, .int (nI (p))), (4, .int (nI (last)))]) dX5_nextChoice_87 (by decide) rfl ?_
        refine mm_iload dX5_nextChoice_89 2 rfl ?_
        refine mm_iload dX5_nextChoice_91 8 rfl ?_
        refine mm_iconst (v := nI 1) dX5_nextChoice_93 (by decide) ?_
        refine mn_iadd dX5_nextChoice_94 ?_
        refine mm_mmax dX5_nextChoice_95 zc_X5_183 (Nat.le_of_ble_eq_true rfl) ?_
        refine mn_top (u := .int (nI (if 13 < last + 1 then last + 1 else 13))) (congrArg Value.int (mx_n (by omega) (by omega))) ?_
        refine mm_istore (L' := [(9, .int (nI (if 13 < last + 1 then last + 1 else 13))), (8, .int (nI (M))), (7, .int (nI (15))), (6, .int (nI (13))), (5, .int (nI (2))), (0, .ref (o + 3)), (1, .ref (o + a)), (2, .int (nI (t))), (3, .int (nI (p))), (4, .int (nI (last)))]) dX5_nextChoice_98 (by decide) rfl ?_
        refine mn_sub [0, 1, 2, 3, 4, 5, 6, 7, 8, 9] rfl ?_
        have hc1 : 13 ≤ (if 13 < last + 1 then last + 1 else 13) := by split <;> omega
        have hc2 : last < (if 13 < last + 1 then last + 1 else 13) := by split <;> omega
        have hc3 : (if 13 < last + 1 then last + 1 else 13) ≤ 19 := by split <;> omega
        have hc4 : ∀ c, last < c → c < (if 13 < last + 1 then last + 1 else 13) → c ∈ cl_ (u :: r) → nd_ w sg (gd_ sg) (u :: r) p c = [] := fun c a1 a2 a3 => by have := (hcl c).mp a3; exfalso; split at a2 <;> omega
        generalize (if 13 < last + 1 then last + 1 else 13) = cc at hc1 hc2 hc3 hc4 ⊢
        by_cases hc5 : 15 < cc
        · exact en cc (by omega) hc5 hc4
        · exact lp (15 + 1 - cc) cc (by omega) hc1 hc2 hc4
    · first | exact absurd rfl c38 | exact absurd c38 (by decide)
set_option maxRecDepth 100000 in
set_option maxHeartbeats 4000000 in
theorem cR_nextT {l : Launch} {D : va_G} {aa : Nat → ClassId} {b0 : Nat} {h : mm_H} {o : Nat} {X : Nat → Nat → Int32} {Y : Nat → Nat → Int64} {rl : Option Nat} {w : ro_w} {sg a dt : Nat} {E U P H PL RS CO AL LI : Nat → Nat} {t p last : Nat} {u : gK} {r : List gK} (ha : cm_at o X Y rl h) (hva : vA a) (hrq : rq_ X w sg a dt E U P H PL RS CO AL LI) (hrk : rk_ w sg (gd_ sg)) (hct : ct_ X w sg (gd_ sg) (u :: r) t) (hwf : wf_ (gd_ sg) (u :: r)) (hp : p < w.1) (hlast : last ≤ 18) (hu : u.1 = 3) : mm_V (zz_K l D aa b0) 2 yX5_nextChoice cX5_nextChoice 12 (some .int) 0 [(0, .ref (o + 3)), (1, .ref (o + a)), (2, .int (nI (t))), (3, .int (nI (p))), (4, .int (nI (last)))] [] h 0 0 (fun rv h' => h' = h ∧ ∃ ch : Nat, rv = some (.int (nI ch)) ∧ ((ch = 0 ∧ ∀ c, last < c → c ∈ cl_ (u :: r) → nd_ w sg (gd_ sg) (u :: r) p c = []) ∨ (ch ∈ cl_ (u :: r) ∧ last < ch ∧ nd_ w sg (gd_ sg) (u :: r) p ch ≠ [] ∧ ∀ c, last < c → c < ch → c ∈ cl_ (u :: r) → nd_ w sg (gd_ sg) (u :: r) p c = []))) := by
  have h24 := hrk.1
  obtain ⟨ht8, -⟩ := ct_M hrq.2.1 hct
  obtain ⟨-, h5, h6, -, -, t1, ht1, h8, hct1⟩ := id hct
  obtain ⟨-, M, hM, hmp⟩ := ct_M hrq.2.1 hct1
  have h6 := h6 (by omega)
  rw [if_neg (by omega), hu] at h5
  have hnn : nn_ w (u :: r) p := by show u.1 = 1 ∨ u.1 = 2 ∨ u.1 = 3; omega
  have hM27 := hmp.1
  have hcl : ∀ c, c ∈ cl_ (u :: r) ↔ 16 ≤ c ∧ c ≤ 17 := by
    intro c; show c ∈ fs_ u.1 ↔ _; rw [hu]; simp [fs_]; omega
  have en : ∀ cc : Nat, cc < 100 → 17 < cc → (∀ c, last < c → c < cc → c ∈ cl_ (u :: r) → nd_ w sg (gd_ sg) (u :: r) p c = []) → mm_V (zz_K l D aa b0) 2 yX5_nextChoice cX5_nextChoice 12 (some .int) 100 [(9, .int (nI (cc))), (8, .int (nI (M))), (7, .int (nI (17))), (6, .int (nI (16))), (5, .int (nI (3))), (0, .ref (o + 3)), (1, .ref (o + a)), (2, .int (nI (t))), (3, .int (nI (p))), (4, .int (nI (last)))] [] h 0 0 (fun rv h' => h' = h ∧ ∃ ch : Nat, rv = some (.int (nI ch)) ∧ ((ch = 0 ∧ ∀ c, last < c → c ∈ cl_ (u :: r) → nd_ w sg (gd_ sg) (u :: r) p c = []) ∨ (ch ∈ cl_ (u :: r) ∧ last < ch ∧ nd_ w sg (gd_ sg) (u :: r) p ch ≠ [] ∧ ∀ c, last < c → c < ch → c ∈ cl_ (u :: r) → nd_ w sg (gd_ sg) (u :: r) p c = []))) := by
    intro cc hc0 hc1 hc2
    refine mm_iload dX5_nextChoice_100 0 rfl ?_
    refine mm_iload dX5_nextChoice_102 2 rfl ?_
    refine mn_icmp_gt (tgt := 180) dX5_nextChoice_104 (by decide) (by omega) (by omega) (fun c104 => ?_) (fun c104 => ?_)
    · refine mm_iconst (v := nI 0) dX5_nextChoice_180 (by decide) ?_
      exact mm_iret dX5_nextChoice_181 rfl (⟨rfl, 0, rfl, Or.inl ⟨rfl, fun c h1 h2 => hc2 c h1 (by have := (hcl c).mp h2; omega) h2⟩⟩)
    · omega
  have lp : ∀ n cc : Nat, cc + n = 17 + 1 → 16 ≤ cc → last < cc → (∀ c, last < c → c < cc → c ∈ cl_ (u :: r) → nd_ w sg (gd_ sg) (u :: r) p c = []) → mm_V (zz_K l D aa b0) 2 yX5_nextChoice cX5_nextChoice 12 (some .int) 100 [(9, .int (nI (cc))), (8, .int (nI (M))), (7, .int (nI (17))), (6, .int (nI (16))), (5, .int (nI (3))), (0, .ref (o + 3)), (1, .ref (o + a)), (2, .int (nI (t))), (3, .int (nI (p))), (4, .int (nI (last)))] [] h 0 0 (fun rv h' => h' = h ∧ ∃ ch : Nat, rv = some (.int (nI ch)) ∧ ((ch = 0 ∧ ∀ c, last < c → c ∈ cl_ (u :: r) → nd_ w sg (gd_ sg) (u :: r) p c = []) ∨ (ch ∈ cl_ (u :: r) ∧ last < ch ∧ nd_ w sg (gd_ sg) (u :: r) p ch ≠ [] ∧ ∀ c, last < c → c < ch → c ∈ cl_ (u :: r) → nd_ w sg (gd_ sg) (u :: r) p c = []))) := by
    intro n
    induction n with
    | zero =>
      intro cc h1 h2 h3 h4
      exact en cc (by omega) (by omega) h4
    | succ n ih =>
      intro cc h1 h2 h3 h4
      have hcm : cc ∈ cl_ (u :: r) := (hcl cc).mpr (by omega)
      refine mm_iload dX5_nextChoice_100 0 rfl ?_
      refine mm_iload dX5_nextChoice_102 2 rfl ?_
      refine mn_icmp_gt (tgt := 180) dX5_nextChoice_104 (by decide) (by omega) (by omega) (fun c104 => ?_) (fun c104 => ?_)
      · omega
      · refine mm_iload dX5_nextChoice_107 4 rfl ?_
        refine mn_if_ne (tgt := 123) dX5_nextChoice_109 (by decide) (by omega) (fun c109 => ?_) (fun c109 => ?_)
        · refine mm_aload_n dX5_nextChoice_123 rfl 5 rfl ?_
          refine cm_getR (b := 4) dX5_nextChoice_124 ha zr_X5_14 (by decide) rfl rfl rfl ?_
          refine mm_iload_n dX5_nextChoice_127 rfl 7 rfl ?_
          refine cm_callVr (As := [.int (nI (t))]) (rest := []) (d2 := 0) dX5_nextChoice_128 ha (by decide) rfl zz_clX0 zc_X5_192 zs_X0_kindOf rfl rfl (Nat.le_of_ble_eq_true rfl) (Nat.le_of_ble_eq_true rfl) (by decide) (cc_kindOf ha (by omega)) ?_
          refine mn_top (u := .int (nI (u.2.1))) (congrArg Value.int (by rw [if_pos ht8]; exact h6)) ?_
          refine mm_istore (L' := [(10, .int (nI (u.2.1))), (9, .int (nI (cc))), (8, .int (nI (M))), (7, .int (nI (17))), (6, .int (nI (16))), (5, .int (nI (3))), (0, .ref (o + 3)), (1, .ref (o + a)), (2, .int (nI (t))), (3, .int (nI (p))), (4, .int (nI (last)))]) dX5_nextChoice_131 (by decide) rfl ?_
          refine mm_iload dX5_nextChoice_133 5 rfl ?_
          refine mn_if_ne (tgt := 146) dX5_nextChoice_135 (by decide) (by omega) (fun c135 => ?_) (fun c135 => ?_)
          · refine mm_iload dX5_nextChoice_146 1 rfl ?_
            refine mm_istore (L' := [(11, .int (nI (cc))), (10, .int (nI (u.2.1))), (9, .int (nI (cc))), (8, .int (nI (M))), (7, .int (nI (17))), (6, .int (nI (16))), (5, .int (nI (3))), (0, .ref (o + 3)), (1, .ref (o + a)), (2, .int (nI (t))), (3, .int (nI (p))), (4, .int (nI (last)))]) dX5_nextChoice_148 (by decide) rfl ?_
            refine mm_aload_n dX5_nextChoice_150 rfl 7 rfl ?_
            refine cm_getR (b := 4) dX5_nextChoice_151 ha zr_X5_14 (by decide) rfl rfl rfl ?_
            refine cm_getR (b := 10) dX5_nextChoice_154 ha zr_X5_54 (by decide) rfl rfl rfl ?_
            refine mm_iload dX5_nextChoice_157 1 rfl ?_
            refine mm_iload dX5_nextChoice_159 0 rfl ?_
            refine mm_iload_n dX5_nextChoice_161 rfl 10 rfl ?_
            have hkf : kf_ w (gd_ sg) (u :: r) p cc = some (u.2.1, cc) := rfl
            obtain ⟨⟨hk6, hf19⟩, hiff⟩ := nd_mask hrq.1 hrk hwf hnn hp hcm hkf hmp
            refine cm_callVr (As := [.int (nI (u.2.1)), .int (nI (cc)), .int (nI (p))]) (rest := []) (d2 := 1) dX5_nextChoice_162 ha (by decide) rfl zz_clX7 zc_X5_198 zs_X7_endsOf rfl rfl (Nat.le_of_ble_eq_true rfl) (Nat.le_of_ble_eq_true rfl) (by decide) (cs_endsOf ha hrq.1.1.2.1.1 hk6 hf19 (by omega)) ?_
            refine mm_iload dX5_nextChoice_165 3 rfl ?_
            refine mn_iand dX5_nextChoice_167 ?_
            refine mn_if_eq (tgt := 174) dX5_nextChoice_168 (by decide) (and_r (by omega)) (fun c168 => ?_) (fun c168 => ?_)
            · have hno : nd_ w sg (gd_ sg) (u :: r) p cc = [] := Classical.not_not.mp (fun z => absurd c168 (hiff.mpr z))
              refine mn_iinc (m := 1) (L' := [(9, .int (nI (cc + 1))), (11, .int (nI (cc))), (10, .int (nI (u.2.1))), (8, .int (nI (M))), (7, .int (nI (17))), (6, .int (nI (16))), (5, .int (nI (3))), (0, .ref (o + 3)), (1, .ref (o + a)), (2, .int (nI (t))), (3, .int (nI (p))), (4, .int (nI (last)))]) dX5_nextChoice_174 (by decide) 2 rfl (by decide) rfl ?_
              refine mm_goto (tgt := 100) dX5_nextChoice_177 (by decide) ?_
              refine mn_sub [0, 3, 4, 5, 6, 7, 8, 9, 10, 11] rfl ?_
              exact ih (cc + 1) (by omega) (by omega) (by omega) (fun c a1 a2 a3 => by
                by_cases e : c = cc
                · rw [e]; exact hno
                · exact h4 c a1 (by omega) a3)
            · refine mm_iload dX5_nextChoice_171 2 rfl ?_
              exact mm_iret dX5_nextChoice_173 rfl (⟨rfl, cc, rfl, Or.inr ⟨hcm, h3, hiff.mp c168, h4⟩⟩)
          · first | exact absurd rfl c135 | exact absurd c135 (by decide)
        · first | exact absurd rfl c109 | exact absurd c109 (by decide)
  refine mm_aload_n dX5_nextChoice_0 rfl 0 rfl ?_
  refine cm_getR (b := 4) dX5_nextChoice_1 ha zr_X5_14 (by decide) rfl rfl rfl ?_
  refine mm_iload_n dX5_nextChoice_4 rfl 2 rfl ?_
  refine cm_callVr (As := [.int (nI (t))]) (rest := []) (d2 := 0) dX5_nextChoice_5 ha (by decide) rfl zz_clX0 zc_X5_112 zs_X0_sortOf rfl rfl (Nat.le_of_ble_eq_true rfl) (Nat.le_of_ble_eq_true rfl) (by decide) (cc_sortOf ha (by omega)) ?_
  refine mn_top (u := .int (nI (3))) (congrArg Value.int (by rw [if_pos (by omega)]; exact h5)) ?_
  refine mm_istore (L' := [(5, .int (nI (3))), (0, .ref (o + 3)), (1, .ref (o + a)), (2, .int (nI (t))), (3, .int (nI (p))), (4, .int (nI (last)))]) dX5_nextChoice_8 (by decide) rfl ?_
  refine mm_iload dX5_nextChoice_10 0 rfl ?_
  refine mm_iconst (v := nI 2) dX5_nextChoice_12 (by decide) ?_
  refine mn_icmp_ne (tgt := 21) dX5_nextChoice_13 (by decide) (by omega) (by omega) (fun c13 => ?_) (fun c13 => ?_)
  · refine mm_iload dX5_nextChoice_21 0 rfl ?_
    refine mm_iconst (v := nI 3) dX5_nextChoice_23 (by decide) ?_
    refine mn_icmp_ne (tgt := 32) dX5_nextChoice_24 (by decide) (by omega) (by omega) (fun c24 => ?_) (fun c24 => ?_)
    · first | exact absurd rfl c24 | exact absurd c24 (by decide)
    · refine mm_bipush (v := nI 16) dX5_nextChoice_27 (by decide) ?_
      refine mm_goto (tgt := 33) dX5_nextChoice_29 (by decide) ?_
      refine mm_istore (L' := [(6, .int (nI (16))), (5, .int (nI (3))), (0, .ref (o + 3)), (1, .ref (o + a)), (2, .int (nI (t))), (3, .int (nI (p))), (4, .int (nI (last)))]) dX5_nextChoice_33 (by decide) rfl ?_
      refine mm_iload dX5_nextChoice_35 1 rfl ?_
      refine mm_iconst (v := nI 1) dX5_nextChoice_37 (by decide) ?_
      refine mn_icmp_ne (tgt := 46) dX5_nextChoice_38 (by decide) (by omega) (by omega) (fun c38 => ?_) (fun c38 => ?_)
      · refine mm_iload dX5_nextChoice_46 1 rfl ?_
        refine mm_iconst (v := nI 2) dX5_nextChoice_48 (by decide) ?_
        refine mn_icmp_ne (tgt := 57) dX5_nextChoice_49 (by decide) (by omega) (by omega) (fun c49 => ?_) (fun c49 => ?_)
        · refine mm_iload dX5_nextChoice_57 1 rfl ?_
          refine mm_iconst (v := nI 3) dX5_nextChoice_59 (by decide) ?_
          refine mn_icmp_ne (tgt := 68) dX5_nextChoice_60 (by decide) (by omega) (by omega) (fun c60 => ?_) (fun c60 => ?_)
          · first | exact absurd rfl c60 | exact absurd c60 (by decide)
          · refine mm_bipush (v := nI 17) dX5_nextChoice_63 (by decide) ?_
            refine mm_goto (tgt := 70) dX5_nextChoice_65 (by decide) ?_
            refine mm_istore (L' := [(7, .int (nI (17))), (6, .int (nI (16))), (5, .int (nI (3))), (0, .ref (o + 3)), (1, .ref (o + a)), (2, .int (nI (t))), (3, .int (nI (p))), (4, .int (nI (last)))]) dX5_nextChoice_70 (by decide) rfl ?_
            refine mm_aload_n dX5_nextChoice_72 rfl 3 rfl ?_
            refine cm_getR (b := 4) dX5_nextChoice_73 ha zr_X5_14 (by decide) rfl rfl rfl ?_
            refine mm_aload_n dX5_nextChoice_76 rfl 3 rfl ?_
            refine cm_getR (b := 4) dX5_nextChoice_77 ha zr_X5_14 (by decide) rfl rfl rfl ?_
            refine mm_iload_n dX5_nextChoice_80 rfl 5 rfl ?_
            refine cm_callVr (As := [.int (nI (t))]) (rest := [.ref (o + 4)]) (d2 := 0) dX5_nextChoice_81 ha (by decide) rfl zz_clX0 zc_X5_177 zs_X0_restOf rfl rfl (Nat.le_of_ble_eq_true rfl) (Nat.le_of_ble_eq_true rfl) (by decide) (cc_restOf ha (by omega)) ?_
            refine mn_top (u := .int (nI (t1))) (congrArg Value.int (by rw [if_pos (by omega)]; exact h8)) ?_
            refine cm_callVr (As := [.int (nI (t1))]) (rest := []) (d2 := 0) dX5_nextChoice_84 ha (by decide) rfl zz_clX0 zc_X5_180 zs_X0_placesOf rfl rfl (Nat.le_of_ble_eq_true rfl) (Nat.le_of_ble_eq_true rfl) (by decide) (cc_placesOf ha (by omega)) ?_
            refine mn_top (u := .int (nI (M))) (congrArg Value.int (by rw [if_pos (by omega)]; exact hM)) ?_
            refine mm_istore (L' := [(8, .int (nI (M))), (7, .int (nI (17))), (6, .int (nI (16))), (5, .int (nI (3))), (0, .ref (o + 3)), (1, .ref (o + a)), (2, .int (nI (t))), (3, .int (nI (p))), (4, .int (nI (last)))]) dX5_nextChoice_87 (by decide) rfl ?_
            refine mm_iload dX5_nextChoice_89 2 rfl ?_
            refine mm_iload dX5_nextChoice_91 8 rfl ?_
            refine mm_iconst (v := nI 1) dX5_nextChoice_93 (by decide) ?_
            refine mn_iadd dX5_nextChoice_94 ?_
            refine mm_mmax dX5_nextChoice_95 zc_X5_183 (Nat.le_of_ble_eq_true rfl) ?_
            refine mn_top (u := .int (nI (if 16 < last + 1 then last + 1 else 16))) (congrArg Value.int (mx_n (by omega) (by omega))) ?_
            refine mm_istore (L' := [(9, .int (nI (if 16 < last + 1 then last + 1 else 16))), (8, .int (nI (M))), (7, .int (nI (17))), (6, .int (nI (16))), (5, .int (nI (3))), (0, .ref (o + 3)), (1, .ref (o + a)), (2, .int (nI (t))), (3, .int (nI (p))), (4, .int (nI (last)))]) dX5_nextChoice_98 (by decide) rfl ?_
            refine mn_sub [0, 1, 2, 3, 4, 5, 6, 7, 8, 9] rfl ?_
            have hc1 : 16 ≤ (if 16 < last + 1 then last + 1 else 16) := by split <;> omega
            have hc2 : last < (if 16 < last + 1 then last + 1 else 16) := by split <;> omega
            have hc3 : (if 16 < last + 1 then last + 1 else 16) ≤ 19 := by split <;> omega
            have hc4 : ∀ c, last < c → c < (if 16 < last + 1 then last + 1 else 16) → c ∈ cl_ (u :: r) → nd_ w sg (gd_ sg) (u :: r) p c = [] := fun c a1 a2 a3 => by have := (hcl c).mp a3; exfalso; split at a2 <;> omega
            generalize (if 16 < last + 1 then last + 1 else 16) = cc at hc1 hc2 hc3 hc4 ⊢
            by_cases hc5 : 17 < cc
            · exact en cc (by omega) hc5 hc4
            · exact lp (17 + 1 - cc) cc (by omega) hc1 hc2 hc4
        · first | exact absurd rfl c49 | exact absurd c49 (by decide)
      · first | exact absurd rfl c38 | exact absurd c38 (by decide)
  · first | exact absurd rfl c13 | exact absurd c13 (by decide)
