/-! the reference: write -/
/-- what write may be asked -/
def wArg (x1 x2 x3 x4 x5 : Int32) : Prop := ((0 : Int) ≤ x1.toInt ∧ x1.toInt ≤ 15) ∧ ((1 : Int) ≤ x2.toInt ∧ x2.toInt ≤ 3) ∧ nI 1 ≤ x3 ∧ (x2 ≤ nI 1 ∨ nI 1 ≤ x4) ∧ (x2 ≤ nI 2 ∨ nI 1 ≤ x5)
set_option maxRecDepth 100000 in
set_option maxHeartbeats 4000000 in
theorem tM_writeN {l : Launch} {D : va_G} {aa : Nat → ClassId} {b0 : Nat} {h : mm_H} {o : Nat} {F : Nat → Int32} {G : Nat → Int64} {A : Nat → Nat → Int32} {B : Nat → Nat → Int64}  {x1 x2 x3 x4 x5 : Int32} (ha : rm_at o F G A B h) (hb : ¬ wArg x1 x2 x3 x4 x5) : mm_V (zz_K l D aa b0) 9 yX12_write cX12_write 10 (some .int) 0 [(0, .ref (o)), (1, .int (x1)), (2, .int (x2)), (3, .int (x3)), (4, .int (x4)), (5, .int (x5))] [] h 0 0 (fun r h' => h' = h ∧ r = some (.int (-2))) := by
  refine mm_iload_n dX12_write_0 rfl 1 rfl ?_
  refine mm_i2l dX12_write_1 ?_
  refine mm_lconst (v := lN 0) dX12_write_2 (by decide) ?_
  refine mm_ldc2 (v := (15)) dX12_write_3 zk_123 ?_
  refine mn_top (u := .long (lN (15))) (congrArg Value.long (by decide)) ?_
  by_cases g6 : (0 : Int) ≤ x1.toInt ∧ x1.toInt ≤ 15
  · refine rm_callSr (As := [.long ((x1).toInt64), .long (lN (0)), .long (lN (15))]) (rest := []) (d2 := 0) dX12_write_6 zc_isIn rfl rfl (Nat.le_of_ble_eq_true rfl) (Nat.le_of_ble_eq_true rfl) (by decide) (tm_isIn _ _ _) ?_
    refine mn_top (u := .int (nI (Bool.toNat (true)))) (congrArg Value.int (in_t (a := 0) (b := 15) (by decide) (by decide) (by omega) (by omega) (g6))) ?_
    refine mn_ifB_eq (tgt := 51) dX12_write_9 (by decide) (fun c9 => ?_) (fun c9 => ?_)
    · cases c9
    · refine mm_iload_n dX12_write_12 rfl 2 rfl ?_
      refine mm_i2l dX12_write_13 ?_
      refine mm_lconst (v := lN 1) dX12_write_14 (by decide) ?_
      refine mm_ldc2 (v := (3)) dX12_write_15 zk_173 ?_
      refine mn_top (u := .long (lN (3))) (congrArg Value.long (by decide)) ?_
      by_cases g18 : (1 : Int) ≤ x2.toInt ∧ x2.toInt ≤ 3
      · refine rm_callSr (As := [.long ((x2).toInt64), .long (lN (1)), .long (lN (3))]) (rest := []) (d2 := 0) dX12_write_18 zc_isIn rfl rfl (Nat.le_of_ble_eq_true rfl) (Nat.le_of_ble_eq_true rfl) (by decide) (tm_isIn _ _ _) ?_
        refine mn_top (u := .int (nI (Bool.toNat (true)))) (congrArg Value.int (in_t (a := 1) (b := 3) (by decide) (by decide) (by omega) (by omega) (g18))) ?_
        refine mn_ifB_eq (tgt := 51) dX12_write_21 (by decide) (fun c21 => ?_) (fun c21 => ?_)
        · cases c21
        · refine mm_iload_n dX12_write_24 rfl 3 rfl ?_
          refine mm_iconst (v := nI 1) dX12_write_25 (by decide) ?_
          refine mm_icmp_lt (tgt := 51) dX12_write_26 (by decide) (fun c26 => ?_) (fun c26 => ?_)
          · refine mm_bipush (v := (-2)) dX12_write_51 (by decide) ?_
            exact mm_iret dX12_write_53 rfl (⟨rfl, rfl⟩)
          · refine mm_iload_n dX12_write_29 rfl 2 rfl ?_
            refine mm_iconst (v := nI 1) dX12_write_30 (by decide) ?_
            refine mm_icmp_le (tgt := 40) dX12_write_31 (by decide) (fun c31 => ?_) (fun c31 => ?_)
            · refine mm_iload_n dX12_write_40 rfl 2 rfl ?_
              refine mm_iconst (v := nI 2) dX12_write_41 (by decide) ?_
              refine mm_icmp_le (tgt := 54) dX12_write_42 (by decide) (fun c42 => ?_) (fun c42 => ?_)
              · exact absurd ⟨g6, g18, by (first | exact Int32.not_lt.mp c26 | exact Int32.not_lt.mp c26), by (first | exact Or.inl c31 | exact Or.inr (Int32.not_lt.mp c37)), by (first | exact Or.inl c42 | exact Or.inr c48)⟩ hb
              · refine mm_iload dX12_write_45 5 rfl ?_
                refine mm_iconst (v := nI 1) dX12_write_47 (by decide) ?_
                refine mm_icmp_ge (tgt := 54) dX12_write_48 (by decide) (fun c48 => ?_) (fun c48 => ?_)
                · exact absurd ⟨g6, g18, by (first | exact Int32.not_lt.mp c26 | exact Int32.not_lt.mp c26), by (first | exact Or.inl c31 | exact Or.inr (Int32.not_lt.mp c37)), by (first | exact Or.inl c42 | exact Or.inr c48)⟩ hb
                · refine mm_bipush (v := (-2)) dX12_write_51 (by decide) ?_
                  exact mm_iret dX12_write_53 rfl (⟨rfl, rfl⟩)
            · refine mm_iload dX12_write_34 4 rfl ?_
              refine mm_iconst (v := nI 1) dX12_write_36 (by decide) ?_
              refine mm_icmp_lt (tgt := 51) dX12_write_37 (by decide) (fun c37 => ?_) (fun c37 => ?_)
              · refine mm_bipush (v := (-2)) dX12_write_51 (by decide) ?_
                exact mm_iret dX12_write_53 rfl (⟨rfl, rfl⟩)
              · refine mm_iload_n dX12_write_40 rfl 2 rfl ?_
                refine mm_iconst (v := nI 2) dX12_write_41 (by decide) ?_
                refine mm_icmp_le (tgt := 54) dX12_write_42 (by decide) (fun c42 => ?_) (fun c42 => ?_)
                · exact absurd ⟨g6, g18, by (first | exact Int32.not_lt.mp c26 | exact Int32.not_lt.mp c26), by (first | exact Or.inl c31 | exact Or.inr (Int32.not_lt.mp c37)), by (first | exact Or.inl c42 | exact Or.inr c48)⟩ hb
                · refine mm_iload dX12_write_45 5 rfl ?_
                  refine mm_iconst (v := nI 1) dX12_write_47 (by decide) ?_
                  refine mm_icmp_ge (tgt := 54) dX12_write_48 (by decide) (fun c48 => ?_) (fun c48 => ?_)
                  · exact absurd ⟨g6, g18, by (first | exact Int32.not_lt.mp c26 | exact Int32.not_lt.mp c26), by (first | exact Or.inl c31 | exact Or.inr (Int32.not_lt.mp c37)), by (first | exact Or.inl c42 | exact Or.inr c48)⟩ hb
                  · refine mm_bipush (v := (-2)) dX12_write_51 (by decide) ?_
                    exact mm_iret dX12_write_53 rfl (⟨rfl, rfl⟩)
      · refine rm_callSr (As := [.long ((x2).toInt64), .long (lN (1)), .long (lN (3))]) (rest := []) (d2 := 0) dX12_write_18 zc_isIn rfl rfl (Nat.le_of_ble_eq_true rfl) (Nat.le_of_ble_eq_true rfl) (by decide) (tm_isIn _ _ _) ?_
        refine mn_top (u := .int (nI (Bool.toNat (false)))) (congrArg Value.int (in_f (a := 1) (b := 3) (by decide) (by decide) (by omega) (by omega) (g18))) ?_
        refine mn_ifB_eq (tgt := 51) dX12_write_21 (by decide) (fun c21 => ?_) (fun c21 => ?_)
        · refine mm_bipush (v := (-2)) dX12_write_51 (by decide) ?_
          exact mm_iret dX12_write_53 rfl (⟨rfl, rfl⟩)
        · cases c21
  · refine rm_callSr (As := [.long ((x1).toInt64), .long (lN (0)), .long (lN (15))]) (rest := []) (d2 := 0) dX12_write_6 zc_isIn rfl rfl (Nat.le_of_ble_eq_true rfl) (Nat.le_of_ble_eq_true rfl) (by decide) (tm_isIn _ _ _) ?_
    refine mn_top (u := .int (nI (Bool.toNat (false)))) (congrArg Value.int (in_f (a := 0) (b := 15) (by decide) (by decide) (by omega) (by omega) (g6))) ?_
    refine mn_ifB_eq (tgt := 51) dX12_write_9 (by decide) (fun c9 => ?_) (fun c9 => ?_)
    · refine mm_bipush (v := (-2)) dX12_write_51 (by decide) ?_
      exact mm_iret dX12_write_53 rfl (⟨rfl, rfl⟩)
    · cases c9
set_option maxRecDepth 100000 in
set_option maxHeartbeats 4000000 in
theorem tM_write {l : Launch} {D : va_G} {aa : Nat → ClassId} {b0 : Nat} {h : mm_H} {o : Nat} {F : Nat → Int32} {G : Nat → Int64} {A : Nat → Nat → Int32} {B : Nat → Nat → Int64} {s : aS} {sg n : Nat} {a b c : Int32} (ha : rm_at o F G A B h) (hW : WF s) (hI : RI s F A B) (hs : sg < 16) (hn : 1 ≤ n ∧ n ≤ 3) (hg : nI 1 ≤ a ∧ (n ≤ 1 ∨ nI 1 ≤ b) ∧ (n ≤ 2 ∨ nI 1 ≤ c)) : mm_V (zz_K l D aa b0) 9 yX12_write cX12_write 10 (some .int) 0 [(0, .ref (o)), (1, .int (nI (sg))), (2, .int (nI (n))), (3, .int (a)), (4, .int (b)), (5, .int (c))] [] h 0 0 (fun r h' => r = some (.int (wAn (wRes sg n (wv3 a b c)))) ∧ ∃ (F' : Nat → Int32) (A' : Nat → Nat → Int32), rm_at o F' G A' B h' ∧ rm_fr o h h' ∧ RI (aWr s (wRes sg n (wv3 a b c))) F' A' B) := by
  have hf : rm_fr o h h := rm_fr.rf
  obtain ⟨al, hal⟩ : ∃ al, al = 14 ^ n := ⟨_, rfl⟩
  have hal2 : 14 ≤ al ∧ al ≤ 2744 := by rw [hal]; rcases (show n = 1 ∨ n = 2 ∨ n = 3 by omega) with e | e | e <;> rw [e] <;> decide
  obtain ⟨wv, hwv⟩ : ∃ wv, wv = wv3 a b c := ⟨_, rfl⟩
  rw [← hwv]
  have KF : ∀ (cs : List Nat) (F1 : Nat → Int32) (A1 : Nat → Nat → Int32) (h1 : mm_H), wRes sg n wv = some cs → wJ sg wv F A F1 A1 → lyr A1 (wl cs) → F1 15 = nI (wl cs).length → rm_at o F1 G A1 B h1 → rm_fr o h h1 → mm_V (zz_K l D aa b0) 9 yX12_write cX12_write 10 (some .int) 198 [(0, .ref (o))] [] h1 0 0 (fun r h' => r = some (.int (wAn (wRes sg n wv))) ∧ ∃ (F' : Nat → Int32) (A' : Nat → Nat → Int32), rm_at o F' G A' B h' ∧ rm_fr o h h' ∧ RI (aWr s (wRes sg n wv)) F' A' B) := by
    intro cs F1 A1 h1 hres hJ hly h15 ha hf
    obtain ⟨hcl, hc14⟩ := wRes_in hres
    have hwl := wl_len cs
    refine mm_aload_n dX12_write_198 rfl 0 rfl ?_
    refine mm_aload_n dX12_write_199 rfl 0 rfl ?_
    refine rm_getI 15 dX12_write_200 ha zf_size (by decide) rfl rfl ?_
    refine mn_top (u := .int (nI ((wl cs).length))) (congrArg Value.int ((h15))) ?_
    refine rm_putI 52 dX12_write_203 ha hf zf_writtenMany (by decide) rfl rfl rfl rfl (fun h1 ha hf => ?_)
    refine mm_iconst (v := nI 0) dX12_write_206 (by decide) ?_
    refine mm_istore (L' := [(8, .int (nI (0))), (0, .ref (o))]) dX12_write_207 (by decide) rfl ?_
    refine mn_sub [1, 0] rfl ?_
    suffices lp : ∀ (r i : Nat) (A2 : Nat → Nat → Int32) (h2 : mm_H), i + r = (wl cs).length → (∀ j, j ≠ 51 → A2 j = A1 j) → (∀ j, j < 6 → A2 51 j = if j < i then nI (wkd s cs j) else A1 51 j) → rm_at o (upd F1 52 (nI ((wl cs).length))) G A2 B h2 → rm_fr o h h2 → mm_V (zz_K l D aa b0) 9 yX12_write cX12_write 10 (some .int) 209 [(0, .ref (o)), (8, .int (nI (i)))] [] h2 0 0 (fun r h' => r = some (.int (wAn (wRes sg n wv))) ∧ ∃ (F' : Nat → Int32) (A' : Nat → Nat → Int32), rm_at o F' G A' B h' ∧ rm_fr o h h' ∧ RI (aWr s (wRes sg n wv)) F' A' B) from lp (wl cs).length 0 A1 _ (Nat.zero_add _) (fun _ _ => rfl) (fun j _ => by rw [if_neg (Nat.not_lt_zero _)]) ha hf
    intro r
    induction r with
    | zero =>
      intro i A2 h2 hir hA2 h51 ha hf
      refine mm_iload dX12_write_209 1 rfl ?_
      refine mm_aload_n dX12_write_211 rfl 0 rfl ?_
      refine rm_getI 15 dX12_write_212 ha zf_size (by decide) rfl rfl ?_
      refine mn_top (u := .int (nI ((wl cs).length))) (congrArg Value.int (((pk_un (by decide)).trans h15))) ?_
      refine mn_icmp_ge (tgt := 254) dX12_write_215 (by decide) (by omega) (by omega) (fun c215 => ?_) (fun c215 => ?_)
      · refine mm_aload_n dX12_write_254 rfl 0 rfl ?_
        refine rm_getI 15 dX12_write_255 ha zf_size (by decide) rfl rfl ?_
        refine mn_top (u := .int (nI ((wl cs).length))) (congrArg Value.int (((pk_un (by decide)).trans h15))) ?_
        have hi : i = (wl cs).length := by omega
        have hRI := RI_wr (cs := cs) (F' := (upd F1 52 (nI ((wl cs).length)))) (A' := A2) (wJ_RI hI hJ) (fun j hj => pk_un hj) hA2 pk_us (fun j hj => by
          rw [h51 j hj]
          by_cases e : j < i
          · rw [if_pos e]
          · rw [if_neg e, ((wJ_RI hI hJ).2.2.2.2.2.2 j hj).1, show wkd s cs j = aWk s j from if_neg (by omega)])
        rw [hres]
        exact mm_iret dX12_write_258 rfl (⟨rfl, (upd F1 52 (nI ((wl cs).length))), A2, ha, hf, hRI⟩)
      · omega
    | succ r ih =>
      intro i A2 h2 hir hA2 h51 ha hf
      refine mm_iload dX12_write_209 1 rfl ?_
      refine mm_aload_n dX12_write_211 rfl 0 rfl ?_
      refine rm_getI 15 dX12_write_212 ha zf_size (by decide) rfl rfl ?_
      refine mn_top (u := .int (nI ((wl cs).length))) (congrArg Value.int (((pk_un (by decide)).trans h15))) ?_
      refine mn_icmp_ge (tgt := 254) dX12_write_215 (by decide) (by omega) (by omega) (fun c215 => ?_) (fun c215 => ?_)
      · omega
      · have hil : i < (wl cs).length := by omega
        obtain ⟨hin, hk7⟩ := wl_in cs i hil
        have h16 : A2 16 i = nI ((wl cs).getD i (0, 0)).1 := by rw [hA2 16 (by decide)]; exact (hly i hil).1
        have ht4 : ((wl cs).getD i (0, 0)).1 < 4 := by rcases hin with z | z <;> rw [z] <;> decide
        have hwk : wkd s cs i = if ((wl cs).getD i (0, 0)).1 = 3 then 7 else ((wl cs).getD i (0, 0)).2 := if_pos hil
        refine mm_aload_n dX12_write_218 rfl 0 rfl ?_
        refine rm_getA 51 dX12_write_219 ha zf_writtenKind (by decide) rfl ?_
        refine mm_iload dX12_write_222 1 rfl ?_
        refine mm_aload_n dX12_write_224 rfl 0 rfl ?_
        refine rm_getA 16 dX12_write_225 ha zf_rowSort (by decide) rfl ?_
        refine mm_iload dX12_write_228 1 rfl ?_
        refine rm_iald (k := 16) dX12_write_230 ha rfl rfl rfl (show i < 24 from (by omega)) ?_
        refine mn_top (u := .int (nI (((wl cs).getD i (0, 0)).1))) (congrArg Value.int (h16)) ?_
        refine mm_iconst (v := nI 3) dX12_write_231 (by decide) ?_
        refine mn_icmp_ne (tgt := 240) dX12_write_232 (by decide) (by omega) (by omega) (fun c232 => ?_) (fun c232 => ?_)
        · rw [if_neg c232] at hwk
          have h1 : ((wl cs).getD i (0, 0)).1 = 1 := by rcases hin with z | z; exact z; exact absurd (by rw [z]) c232
          have h17 : A2 17 i = nI ((wl cs).getD i (0, 0)).2 := by rw [hA2 17 (by decide)]; exact ((hly i hil).2 h1).1
          refine mm_aload_n dX12_write_240 rfl 0 rfl ?_
          refine rm_getA 17 dX12_write_241 ha zf_rowKind (by decide) rfl ?_
          refine mm_iload dX12_write_244 1 rfl ?_
          refine rm_iald (k := 17) dX12_write_246 ha rfl rfl rfl (show i < 24 from (by omega)) ?_
          refine mn_top (u := .int (nI (((wl cs).getD i (0, 0)).2))) (congrArg Value.int (h17)) ?_
          refine mn_top (u := .int (nI (wkd s cs i))) (congrArg Value.int (congrArg nI hwk.symm)) ?_
          refine rm_iast (k := 51) dX12_write_247 ha hf rfl rfl rfl (show i < 6 from (by omega)) (fun h2 ha hf => ?_)
          refine mn_iinc (m := 1) (L' := [(8, .int (nI (i + 1))), (0, .ref (o))]) dX12_write_248 (by decide) 1 rfl (by decide) rfl ?_
          refine mm_goto (tgt := 209) dX12_write_251 (by decide) ?_
          refine mn_sub [1, 0] rfl ?_
          refine ih (i + 1) (rm_up A2 51 (upd (A2 51) (i) (nI (wkd s cs i)))) _ (by omega) (fun j hj => (rm_up_n hj).trans (hA2 j hj)) (fun j hj => ?_) ha hf
          rw [rm_up_s]
          by_cases e : j = i
          · rw [e, pk_us, if_pos (by omega)]
          · rw [pk_un e, h51 j hj]; by_cases e2 : j < i; rw [if_pos e2, if_pos (by omega)]; rw [if_neg e2, if_neg (by omega)]
        · rw [if_pos c232] at hwk
          refine mm_bipush (v := nI 7) dX12_write_235 (by decide) ?_
          refine mm_goto (tgt := 247) dX12_write_237 (by decide) ?_
          refine mn_top (u := .int (nI (wkd s cs i))) (congrArg Value.int (congrArg nI hwk.symm)) ?_
          refine rm_iast (k := 51) dX12_write_247 ha hf rfl rfl rfl (show i < 6 from (by omega)) (fun h2 ha hf => ?_)
          refine mn_iinc (m := 1) (L' := [(8, .int (nI (i + 1))), (0, .ref (o))]) dX12_write_248 (by decide) 1 rfl (by decide) rfl ?_
          refine mm_goto (tgt := 209) dX12_write_251 (by decide) ?_
          refine mn_sub [1, 0] rfl ?_
          refine ih (i + 1) (rm_up A2 51 (upd (A2 51) (i) (nI (wkd s cs i)))) _ (by omega) (fun j hj => (rm_up_n hj).trans (hA2 j hj)) (fun j hj => ?_) ha hf
          rw [rm_up_s]
          by_cases e : j = i
          · rw [e, pk_us, if_pos (by omega)]
          · rw [pk_un e, h51 j hj]; by_cases e2 : j < i; rw [if_pos e2, if_pos (by omega)]; rw [if_neg e2, if_neg (by omega)]
  have KT : ∀ (d : Nat) (cs : List Nat) (F1 : Nat → Int32) (A1 : Nat → Nat → Int32) (h1 : mm_H), d ≤ n → wRes sg n wv = some cs → wJ sg wv F A F1 A1 → lyr A1 (wl cs) → F1 15 = nI (wl cs).length → rm_at o F1 G A1 B h1 → rm_fr o h h1 → mm_V (zz_K l D aa b0) 9 yX12_write cX12_write 10 (some .int) 185 [(0, .ref (o)), (2, .int (nI (n))), (7, .int (nI (Bool.toNat (true)))), (8, .int (nI (d)))] [] h1 0 0 (fun r h' => r = some (.int (wAn (wRes sg n wv))) ∧ ∃ (F' : Nat → Int32) (A' : Nat → Nat → Int32), rm_at o F' G A' B h' ∧ rm_fr o h h' ∧ RI (aWr s (wRes sg n wv)) F' A' B) := by
    intro d cs F1 A1 h1 hd hres hJ hly h15 ha hf
    refine mn_iinc (m := 1) (L' := [(8, .int (nI (d + 1))), (0, .ref (o)), (2, .int (nI (n))), (7, .int (nI (Bool.toNat (true))))]) dX12_write_185 (by decide) 3 rfl (by decide) rfl ?_
    refine mm_goto (tgt := 127) dX12_write_188 (by decide) ?_
    refine mm_iload dX12_write_127 0 rfl ?_
    refine mm_iload_n dX12_write_129 rfl 2 rfl ?_
    refine mn_icmp_gt (tgt := 191) dX12_write_130 (by decide) (by omega) (by omega) (fun c130 => ?_) (fun c130 => ?_)
    · refine mm_iload dX12_write_191 3 rfl ?_
      refine mn_ifB_ne (tgt := 198) dX12_write_193 (by decide) (fun c193 => ?_) (fun c193 => ?_)
      · refine mn_sub [1] rfl ?_
        exact KF cs F1 A1 _ hres hJ hly h15 ha hf
      · cases c193
    · refine mm_iload dX12_write_133 3 rfl ?_
      refine mn_ifB_ne (tgt := 191) dX12_write_135 (by decide) (fun c135 => ?_) (fun c135 => ?_)
      · refine mm_iload dX12_write_191 3 rfl ?_
        refine mn_ifB_ne (tgt := 198) dX12_write_193 (by decide) (fun c193 => ?_) (fun c193 => ?_)
        · refine mn_sub [1] rfl ?_
          exact KF cs F1 A1 _ hres hJ hly h15 ha hf
        · cases c193
      · cases c135
  have KO : ∀ (e d : Nat) (F1 : Nat → Int32) (A1 : Nat → Nat → Int32) (h1 : mm_H), d + e = n + 1 → wRes sg n wv = wfd sg n wv (d * 14 ^ n) → wJ sg wv F A F1 A1 → rm_at o F1 G A1 B h1 → rm_fr o h h1 → mm_V (zz_K l D aa b0) 9 yX12_write cX12_write 10 (some .int) 127 [(0, .ref (o)), (2, .int (nI (n))), (6, .int (nI (al))), (7, .int (nI (Bool.toNat (false)))), (8, .int (nI (d)))] [] h1 0 0 (fun r h' => r = some (.int (wAn (wRes sg n wv))) ∧ ∃ (F' : Nat → Int32) (A' : Nat → Nat → Int32), rm_at o F' G A' B h' ∧ rm_fr o h h' ∧ RI (aWr s (wRes sg n wv)) F' A' B) := by
    intro e
    induction e with
    | zero =>
      intro d F1 A1 h1 hde hres hJ ha hf
      refine mm_iload dX12_write_127 4 rfl ?_
      refine mm_iload_n dX12_write_129 rfl 1 rfl ?_
      refine mn_icmp_gt (tgt := 191) dX12_write_130 (by decide) (by omega) (by omega) (fun c130 => ?_) (fun c130 => ?_)
      · have hres : wRes sg n wv = none := by rw [hres, show d = n + 1 by omega]; exact wfd_e
        refine mm_iload dX12_write_191 3 rfl ?_
        refine mn_ifB_ne (tgt := 198) dX12_write_193 (by decide) (fun c193 => ?_) (fun c193 => ?_)
        · cases c193
        · refine mm_iconst (v := (-1)) dX12_write_196 (by decide) ?_
          rw [hres]
          exact mm_iret dX12_write_197 rfl (⟨rfl, F1, A1, ha, hf, wJ_RI hI hJ⟩)
      · omega
    | succ e iho =>
      intro d F1 A1 h1 hde hres hJ ha hf
      refine mm_iload dX12_write_127 4 rfl ?_
      refine mm_iload_n dX12_write_129 rfl 1 rfl ?_
      refine mn_icmp_gt (tgt := 191) dX12_write_130 (by decide) (by omega) (by omega) (fun c130 => ?_) (fun c130 => ?_)
      · omega
      · refine mm_iload dX12_write_133 3 rfl ?_
        refine mn_ifB_ne (tgt := 191) dX12_write_135 (by decide) (fun c135 => ?_) (fun c135 => ?_)
        · cases c135
        · refine mm_iconst (v := nI 0) dX12_write_138 (by decide) ?_
          refine mm_istore (L' := [(9, .int (nI (0))), (0, .ref (o)), (2, .int (nI (n))), (6, .int (nI (al))), (7, .int (nI (Bool.toNat (false)))), (8, .int (nI (d)))]) dX12_write_139 (by decide) rfl ?_
          refine mn_sub [1, 2, 3, 4, 5, 0] rfl ?_
          suffices lp : ∀ (r k : Nat) (F2 : Nat → Int32) (A2 : Nat → Nat → Int32) (h2 : mm_H), k + r = al → wRes sg n wv = wfd sg n wv (d * 14 ^ n + k) → wJ sg wv F A F2 A2 → rm_at o F2 G A2 B h2 → rm_fr o h h2 → mm_V (zz_K l D aa b0) 9 yX12_write cX12_write 10 (some .int) 141 [(0, .ref (o)), (2, .int (nI (n))), (6, .int (nI (al))), (7, .int (nI (Bool.toNat (false)))), (8, .int (nI (d))), (9, .int (nI (k)))] [] h2 0 0 (fun r h' => r = some (.int (wAn (wRes sg n wv))) ∧ ∃ (F' : Nat → Int32) (A' : Nat → Nat → Int32), rm_at o F' G A' B h' ∧ rm_fr o h h' ∧ RI (aWr s (wRes sg n wv)) F' A' B) from lp al 0 F1 A1 _ (Nat.zero_add _) hres hJ ha hf
          intro r
          induction r with
          | zero =>
            intro k F2 A2 h2 hkr hres hJ ha hf
            refine mm_iload dX12_write_141 5 rfl ?_
            refine mm_iload dX12_write_143 2 rfl ?_
            refine mn_icmp_ge (tgt := 185) dX12_write_145 (by decide) (by omega) (by omega) (fun c145 => ?_) (fun c145 => ?_)
            · refine mn_iinc (m := 1) (L' := [(8, .int (nI (d + 1))), (0, .ref (o)), (2, .int (nI (n))), (6, .int (nI (al))), (7, .int (nI (Bool.toNat (false)))), (9, .int (nI (k)))]) dX12_write_185 (by decide) 4 rfl (by decide) rfl ?_
              refine mm_goto (tgt := 127) dX12_write_188 (by decide) ?_
              refine mn_sub [1, 2, 3, 4, 0] rfl ?_
              exact iho (d + 1) F2 A2 _ (by omega) (by rw [hres, show k = 14 ^ n by omega, Nat.add_mul, Nat.one_mul]) hJ ha hf
            · omega
          | succ r ih =>
            intro k F2 A2 h2 hkr hres hJ ha hf
            refine mm_iload dX12_write_141 5 rfl ?_
            refine mm_iload dX12_write_143 2 rfl ?_
            refine mn_icmp_ge (tgt := 185) dX12_write_145 (by decide) (by omega) (by omega) (fun c145 => ?_) (fun c145 => ?_)
            · omega
            · refine mm_iload dX12_write_148 3 rfl ?_
              refine mn_ifB_ne (tgt := 185) dX12_write_150 (by decide) (fun c150 => ?_) (fun c150 => ?_)
              · cases c150
              · have hkl : k < 14 ^ n := by omega
                have hdn : d ≤ n := by omega
                have hcl : (dg n k).length ≤ 3 := by rw [dg_len]; exact hn.2
                have hc14 := dg_lt n k
                have hod := odd_le (dg n k)
                refine mm_aload_n dX12_write_153 rfl 0 rfl ?_
                refine mm_iload_n dX12_write_154 rfl 1 rfl ?_
                refine mm_iload dX12_write_155 5 rfl ?_
                refine rm_callV (As := [.int (nI (n)), .int (nI (k))]) (rest := []) (d2 := 1) dX12_write_157 ha zc_lay zc_lay_s rfl rfl rfl (Nat.le_of_ble_eq_true rfl) (Nat.le_of_ble_eq_true rfl) (by decide) (tm_lay ha hn (by omega) hJ.1.2.2.2.2.2.2.2.2) (fun r h1 hq => ?_)
                obtain ⟨rfl, F3, A3, ha, hf', hF3, hA3, h15, hly, hst⟩ := hq
                have hf := hf.tr hf'
                have hJ3 := wJ_lay hJ hF3 hA3 hst hly h15 hc14 hcl
                refine mm_iload dX12_write_160 4 rfl ?_
                refine mn_icmp_ne (tgt := 176) dX12_write_162 (by decide) (by omega) (by omega) (fun c162 => ?_) (fun c162 => ?_)
                · refine mm_iconst (v := nI 0) dX12_write_176 (by decide) ?_
                  refine mm_istore (L' := [(7, .int (nI (0))), (0, .ref (o)), (2, .int (nI (n))), (6, .int (nI (al))), (8, .int (nI (d))), (9, .int (nI (k)))]) dX12_write_177 (by decide) rfl ?_
                  refine mn_iinc (m := 1) (L' := [(9, .int (nI (k + 1))), (7, .int (nI (0))), (0, .ref (o)), (2, .int (nI (n))), (6, .int (nI (al))), (8, .int (nI (d)))]) dX12_write_179 (by decide) 5 rfl (by decide) rfl ?_
                  refine mm_goto (tgt := 141) dX12_write_182 (by decide) ?_
                  refine mn_sub [2, 3, 4, 1, 5, 0] rfl ?_
                  exact ih (k + 1) F3 A3 _ (by omega) (by rw [hres]; exact wfd_s hdn hkl c162) hJ3 ha hf
                · refine mm_aload_n dX12_write_165 rfl 0 rfl ?_
                  refine rm_callV (As := []) (rest := []) (d2 := 8) dX12_write_166 ha zc_isWanted zc_isWanted_s rfl rfl rfl (Nat.le_of_ble_eq_true rfl) (Nat.le_of_ble_eq_true rfl) (by decide) (tm_isWanted ha hJ3.1 h15 hly hc14 hcl) (fun r h1 hq => ?_)
                  obtain ⟨rfl, F4, A4, ha, hf', hF4, hA4, hw4⟩ := hq
                  have hf := hf.tr hf'
                  obtain ⟨hJ4, hly4, h154⟩ := wJ_ra hJ3 hF4 hA4 hw4 hly h15 hc14 hcl
                  refine mn_ifB_eq (tgt := 176) dX12_write_169 (by decide) (fun c169 => ?_) (fun c169 => ?_)
                  · refine mm_iconst (v := nI 0) dX12_write_176 (by decide) ?_
                    refine mn_top (u := .int (nI (Bool.toNat (false)))) (congrArg Value.int (rfl)) ?_
                    refine mm_istore (L' := [(7, .int (nI (Bool.toNat (false)))), (0, .ref (o)), (2, .int (nI (n))), (6, .int (nI (al))), (8, .int (nI (d))), (9, .int (nI (k)))]) dX12_write_177 (by decide) rfl ?_
                    refine mn_iinc (m := 1) (L' := [(9, .int (nI (k + 1))), (7, .int (nI (Bool.toNat (false)))), (0, .ref (o)), (2, .int (nI (n))), (6, .int (nI (al))), (8, .int (nI (d)))]) dX12_write_179 (by decide) 5 rfl (by decide) rfl ?_
                    refine mm_goto (tgt := 141) dX12_write_182 (by decide) ?_
                    refine mn_sub [2, 3, 4, 1, 5, 0] rfl ?_
                    exact ih (k + 1) F4 A4 _ (by omega) (by rw [hres]; exact wfd_n hdn hkl c162 c169) hJ4 ha hf
                  · refine mm_iconst (v := nI 1) dX12_write_172 (by decide) ?_
                    refine mm_goto (tgt := 177) dX12_write_173 (by decide) ?_
                    refine mn_top (u := .int (nI (Bool.toNat (true)))) (congrArg Value.int (rfl)) ?_
                    refine mm_istore (L' := [(7, .int (nI (Bool.toNat (true)))), (0, .ref (o)), (2, .int (nI (n))), (6, .int (nI (al))), (8, .int (nI (d))), (9, .int (nI (k)))]) dX12_write_177 (by decide) rfl ?_
                    refine mn_iinc (m := 1) (L' := [(9, .int (nI (k + 1))), (7, .int (nI (Bool.toNat (true)))), (0, .ref (o)), (2, .int (nI (n))), (6, .int (nI (al))), (8, .int (nI (d)))]) dX12_write_179 (by decide) 5 rfl (by decide) rfl ?_
                    refine mm_goto (tgt := 141) dX12_write_182 (by decide) ?_
                    refine mm_iload dX12_write_141 0 rfl ?_
                    refine mm_iload dX12_write_143 4 rfl ?_
                    refine mn_icmp_ge (tgt := 185) dX12_write_145 (by decide) (by omega) (by omega) (fun c145 => ?_) (fun c145 => ?_)
                    · refine mn_sub [2, 3, 1, 5] rfl ?_
                      exact KT d (dg n k) F4 A4 _ hdn (by rw [hres]; exact wfd_y hdn hkl c162 c169) hJ4 hly4 h154 ha hf
                    · refine mm_iload dX12_write_148 1 rfl ?_
                      refine mn_ifB_ne (tgt := 185) dX12_write_150 (by decide) (fun c150 => ?_) (fun c150 => ?_)
                      · refine mn_sub [2, 3, 1, 5] rfl ?_
                        exact KT d (dg n k) F4 A4 _ hdn (by rw [hres]; exact wfd_y hdn hkl c162 c169) hJ4 hly4 h154 ha hf
                      · cases c150
  refine mm_iload_n dX12_write_0 rfl 1 rfl ?_
  refine mm_i2l dX12_write_1 ?_
  refine mm_lconst (v := lN 0) dX12_write_2 (by decide) ?_
  refine mm_ldc2 (v := (15)) dX12_write_3 zk_123 ?_
  refine mn_top (u := .long (lN (15))) (congrArg Value.long (by decide)) ?_
  refine rm_callSr (As := [.long ((nI (sg)).toInt64), .long (lN (0)), .long (lN (15))]) (rest := []) (d2 := 0) dX12_write_6 zc_isIn rfl rfl (Nat.le_of_ble_eq_true rfl) (Nat.le_of_ble_eq_true rfl) (by decide) (tm_isIn _ _ _) ?_
  refine mn_top (u := .int (nI (Bool.toNat (true)))) (congrArg Value.int (in_t (a := 0) (b := 15) (by decide) (by decide) (by omega) (by omega) (by rw [nI_toInt (by omega)]; omega))) ?_
  refine mn_ifB_eq (tgt := 51) dX12_write_9 (by decide) (fun c9 => ?_) (fun c9 => ?_)
  · cases c9
  · refine mm_iload_n dX12_write_12 rfl 2 rfl ?_
    refine mm_i2l dX12_write_13 ?_
    refine mm_lconst (v := lN 1) dX12_write_14 (by decide) ?_
    refine mm_ldc2 (v := (3)) dX12_write_15 zk_173 ?_
    refine mn_top (u := .long (lN (3))) (congrArg Value.long (by decide)) ?_
    refine rm_callSr (As := [.long ((nI (n)).toInt64), .long (lN (1)), .long (lN (3))]) (rest := []) (d2 := 0) dX12_write_18 zc_isIn rfl rfl (Nat.le_of_ble_eq_true rfl) (Nat.le_of_ble_eq_true rfl) (by decide) (tm_isIn _ _ _) ?_
    refine mn_top (u := .int (nI (Bool.toNat (true)))) (congrArg Value.int (in_t (a := 1) (b := 3) (by decide) (by decide) (by omega) (by omega) (by rw [nI_toInt (by omega)]; omega))) ?_
    refine mn_ifB_eq (tgt := 51) dX12_write_21 (by decide) (fun c21 => ?_) (fun c21 => ?_)
    · cases c21
    · refine mm_iload_n dX12_write_24 rfl 3 rfl ?_
      refine mm_iconst (v := nI 1) dX12_write_25 (by decide) ?_
      refine mm_icmp_lt (tgt := 51) dX12_write_26 (by decide) (fun c26 => ?_) (fun c26 => ?_)
      · refine mm_bipush (v := (-2)) dX12_write_51 (by decide) ?_
        first | exact absurd hg.1 (Int32.not_le.mpr c26) | (rcases hg.2.1 with z1 | z1; omega; exact absurd z1 (Int32.not_le.mpr c37)) | (rcases hg.2.2 with z1 | z1; omega; exact absurd z1 c48)
      · refine mm_iload_n dX12_write_29 rfl 2 rfl ?_
        refine mm_iconst (v := nI 1) dX12_write_30 (by decide) ?_
        refine mn_icmp_le (tgt := 40) dX12_write_31 (by decide) (by omega) (by omega) (fun c31 => ?_) (fun c31 => ?_)
        · refine mm_iload_n dX12_write_40 rfl 2 rfl ?_
          refine mm_iconst (v := nI 2) dX12_write_41 (by decide) ?_
          refine mn_icmp_le (tgt := 54) dX12_write_42 (by decide) (by omega) (by omega) (fun c42 => ?_) (fun c42 => ?_)
          · refine mm_aload_n dX12_write_54 rfl 0 rfl ?_
            refine mm_iconst (v := (-1)) dX12_write_55 (by decide) ?_
            refine rm_putI 42 dX12_write_56 ha hf zf_ready (by decide) rfl rfl rfl rfl (fun h ha hf => ?_)
            refine mm_aload_n dX12_write_59 rfl 0 rfl ?_
            refine mm_iload_n dX12_write_60 rfl 1 rfl ?_
            refine rm_putI 12 dX12_write_61 ha hf zf_sign (by decide) rfl rfl rfl rfl (fun h ha hf => ?_)
            refine mm_aload_n dX12_write_64 rfl 0 rfl ?_
            refine mm_iload_n dX12_write_65 rfl 1 rfl ?_
            refine rm_callSr (As := [.int (nI (sg))]) (rest := [.ref (o)]) (d2 := 1) dX12_write_66 zc_groundOf rfl rfl (Nat.le_of_ble_eq_true rfl) (Nat.le_of_ble_eq_true rfl) (by decide) (tm_groundOf hs) ?_
            refine rm_putI 13 dX12_write_69 ha hf zf_ground (by decide) rfl rfl rfl rfl (fun h ha hf => ?_)
            refine mm_aload_n dX12_write_72 rfl 0 rfl ?_
            refine rm_getA 53 dX12_write_73 ha zf_wantedValue (by decide) rfl ?_
            refine mm_iconst (v := nI 0) dX12_write_76 (by decide) ?_
            refine mm_iload_n dX12_write_77 rfl 3 rfl ?_
            refine rm_iast (k := 53) dX12_write_78 ha hf rfl rfl rfl (show 0 < 3 from (by decide)) (fun h ha hf => ?_)
            refine mm_aload_n dX12_write_79 rfl 0 rfl ?_
            refine rm_getA 53 dX12_write_80 ha zf_wantedValue (by decide) rfl ?_
            refine mm_iconst (v := nI 1) dX12_write_83 (by decide) ?_
            refine mm_iload dX12_write_84 4 rfl ?_
            refine rm_iast (k := 53) dX12_write_86 ha hf rfl rfl rfl (show 1 < 3 from (by decide)) (fun h ha hf => ?_)
            refine mm_aload_n dX12_write_87 rfl 0 rfl ?_
            refine rm_getA 53 dX12_write_88 ha zf_wantedValue (by decide) rfl ?_
            refine mm_iconst (v := nI 2) dX12_write_91 (by decide) ?_
            refine mm_iload dX12_write_92 5 rfl ?_
            refine rm_iast (k := 53) dX12_write_94 ha hf rfl rfl rfl (show 2 < 3 from (by decide)) (fun h ha hf => ?_)
            obtain ⟨F5, hF5⟩ : ∃ F5, F5 = (upd (upd (upd F 42 ((-1))) 12 (nI (sg))) 13 (nI (gd_ sg))) := ⟨_, rfl⟩
            obtain ⟨A5, hA5⟩ : ∃ A5, A5 = (rm_up (rm_up (rm_up A 53 (upd (A 53) (0) (a))) 53 (upd ((rm_up A 53 (upd (A 53) (0) (a))) 53) (1) (b))) 53 (upd ((rm_up (rm_up A 53 (upd (A 53) (0) (a))) 53 (upd ((rm_up A 53 (upd (A 53) (0) (a))) 53) (1) (b))) 53) (2) (c))) := ⟨_, rfl⟩
            rw [← hF5] at ha
            rw [← hA5] at ha
            have e53 : A5 53 = upd (upd (upd (A 53) 0 a) 1 b) 2 c := by rw [hA5]; simp only [rm_up_s]
            have hJ0 : wJ sg wv F A F5 A5 := by
              refine wJ_b hI hs (by rw [hF5, pk_un (by decide), pk_un (by decide), pk_us]) (by rw [hF5, pk_un (by decide), pk_us]) (by rw [hF5, pk_us]) (fun j h1 h2 h3 => by rw [hF5, pk_un h3, pk_un h2, pk_un h1]) (fun k hk => ?_) (fun j hj => by rw [hA5, rm_up_n hj, rm_up_n hj, rm_up_n hj])
              rw [e53, hwv]
              rcases (show k = 0 ∨ k = 1 ∨ k = 2 by omega) with e | e | e
              · rw [e, pk_un (by decide), pk_un (by decide), pk_us]; rfl
              · rw [e, pk_un (by decide), pk_us]; rfl
              · rw [e, pk_us]; rfl
            refine mm_iload_n dX12_write_95 rfl 2 rfl ?_
            refine mm_iconst (v := nI 1) dX12_write_96 (by decide) ?_
            refine mn_icmp_ne (tgt := 105) dX12_write_97 (by decide) (by omega) (by omega) (fun c97 => ?_) (fun c97 => ?_)
            · refine mm_iload_n dX12_write_105 rfl 2 rfl ?_
              refine mm_iconst (v := nI 2) dX12_write_106 (by decide) ?_
              refine mn_icmp_ne (tgt := 116) dX12_write_107 (by decide) (by omega) (by omega) (fun c107 => ?_) (fun c107 => ?_)
              · refine mm_sipush (v := nI 2744) dX12_write_116 (by decide) ?_
                refine mn_top (u := .int (nI (al))) (congrArg Value.int (congrArg nI (by rw [hal]; rcases (show n = 1 ∨ n = 2 ∨ n = 3 by omega) with e | e | e <;> first | (rw [e]; done) | (rw [e]; rfl) | omega))) ?_
                refine mm_istore (L' := [(6, .int (nI (al))), (0, .ref (o)), (1, .int (nI (sg))), (2, .int (nI (n))), (3, .int (a)), (4, .int (b)), (5, .int (c))]) dX12_write_119 (by decide) rfl ?_
                refine mm_iconst (v := nI 0) dX12_write_121 (by decide) ?_
                refine mn_top (u := .int (nI (Bool.toNat (false)))) (congrArg Value.int (rfl)) ?_
                refine mm_istore (L' := [(7, .int (nI (Bool.toNat (false)))), (6, .int (nI (al))), (0, .ref (o)), (1, .int (nI (sg))), (2, .int (nI (n))), (3, .int (a)), (4, .int (b)), (5, .int (c))]) dX12_write_122 (by decide) rfl ?_
                refine mm_iconst (v := nI 0) dX12_write_124 (by decide) ?_
                refine mm_istore (L' := [(8, .int (nI (0))), (7, .int (nI (Bool.toNat (false)))), (6, .int (nI (al))), (0, .ref (o)), (1, .int (nI (sg))), (2, .int (nI (n))), (3, .int (a)), (4, .int (b)), (5, .int (c))]) dX12_write_125 (by decide) rfl ?_
                refine mn_sub [3, 5, 2, 1, 0] rfl ?_
                exact KO (n + 1) 0 F5 A5 _ (Nat.zero_add _) (by rw [Nat.zero_mul]; rfl) hJ0 ha hf
              · refine mm_sipush (v := nI 196) dX12_write_110 (by decide) ?_
                refine mm_goto (tgt := 119) dX12_write_113 (by decide) ?_
                refine mn_top (u := .int (nI (al))) (congrArg Value.int (congrArg nI (by rw [hal]; rcases (show n = 1 ∨ n = 2 ∨ n = 3 by omega) with e | e | e <;> first | (rw [e]; done) | (rw [e]; rfl) | omega))) ?_
                refine mm_istore (L' := [(6, .int (nI (al))), (0, .ref (o)), (1, .int (nI (sg))), (2, .int (nI (n))), (3, .int (a)), (4, .int (b)), (5, .int (c))]) dX12_write_119 (by decide) rfl ?_
                refine mm_iconst (v := nI 0) dX12_write_121 (by decide) ?_
                refine mn_top (u := .int (nI (Bool.toNat (false)))) (congrArg Value.int (rfl)) ?_
                refine mm_istore (L' := [(7, .int (nI (Bool.toNat (false)))), (6, .int (nI (al))), (0, .ref (o)), (1, .int (nI (sg))), (2, .int (nI (n))), (3, .int (a)), (4, .int (b)), (5, .int (c))]) dX12_write_122 (by decide) rfl ?_
                refine mm_iconst (v := nI 0) dX12_write_124 (by decide) ?_
                refine mm_istore (L' := [(8, .int (nI (0))), (7, .int (nI (Bool.toNat (false)))), (6, .int (nI (al))), (0, .ref (o)), (1, .int (nI (sg))), (2, .int (nI (n))), (3, .int (a)), (4, .int (b)), (5, .int (c))]) dX12_write_125 (by decide) rfl ?_
                refine mn_sub [3, 5, 2, 1, 0] rfl ?_
                exact KO (n + 1) 0 F5 A5 _ (Nat.zero_add _) (by rw [Nat.zero_mul]; rfl) hJ0 ha hf
            · refine mm_bipush (v := nI 14) dX12_write_100 (by decide) ?_
              refine mm_goto (tgt := 119) dX12_write_102 (by decide) ?_
              refine mn_top (u := .int (nI (al))) (congrArg Value.int (congrArg nI (by rw [hal]; rcases (show n = 1 ∨ n = 2 ∨ n = 3 by omega) with e | e | e <;> first | (rw [e]; done) | (rw [e]; rfl) | omega))) ?_
              refine mm_istore (L' := [(6, .int (nI (al))), (0, .ref (o)), (1, .int (nI (sg))), (2, .int (nI (n))), (3, .int (a)), (4, .int (b)), (5, .int (c))]) dX12_write_119 (by decide) rfl ?_
              refine mm_iconst (v := nI 0) dX12_write_121 (by decide) ?_
              refine mn_top (u := .int (nI (Bool.toNat (false)))) (congrArg Value.int (rfl)) ?_
              refine mm_istore (L' := [(7, .int (nI (Bool.toNat (false)))), (6, .int (nI (al))), (0, .ref (o)), (1, .int (nI (sg))), (2, .int (nI (n))), (3, .int (a)), (4, .int (b)), (5, .int (c))]) dX12_write_122 (by decide) rfl ?_
              refine mm_iconst (v := nI 0) dX12_write_124 (by decide) ?_
              refine mm_istore (L' := [(8, .int (nI (0))), (7, .int (nI (Bool.toNat (false)))), (6, .int (nI (al))), (0, .ref (o)), (1, .int (nI (sg))), (2, .int (nI (n))), (3, .int (a)), (4, .int (b)), (5, .int (c))]) dX12_write_125 (by decide) rfl ?_
              refine mn_sub [3, 5, 2, 1, 0] rfl ?_
              exact KO (n + 1) 0 F5 A5 _ (Nat.zero_add _) (by rw [Nat.zero_mul]; rfl) hJ0 ha hf
          · refine mm_iload dX12_write_45 5 rfl ?_
            refine mm_iconst (v := nI 1) dX12_write_47 (by decide) ?_
            refine mm_icmp_ge (tgt := 54) dX12_write_48 (by decide) (fun c48 => ?_) (fun c48 => ?_)
            · refine mm_aload_n dX12_write_54 rfl 0 rfl ?_
              refine mm_iconst (v := (-1)) dX12_write_55 (by decide) ?_
              refine rm_putI 42 dX12_write_56 ha hf zf_ready (by decide) rfl rfl rfl rfl (fun h ha hf => ?_)
              refine mm_aload_n dX12_write_59 rfl 0 rfl ?_
              refine mm_iload_n dX12_write_60 rfl 1 rfl ?_
              refine rm_putI 12 dX12_write_61 ha hf zf_sign (by decide) rfl rfl rfl rfl (fun h ha hf => ?_)
              refine mm_aload_n dX12_write_64 rfl 0 rfl ?_
              refine mm_iload_n dX12_write_65 rfl 1 rfl ?_
              refine rm_callSr (As := [.int (nI (sg))]) (rest := [.ref (o)]) (d2 := 1) dX12_write_66 zc_groundOf rfl rfl (Nat.le_of_ble_eq_true rfl) (Nat.le_of_ble_eq_true rfl) (by decide) (tm_groundOf hs) ?_
              refine rm_putI 13 dX12_write_69 ha hf zf_ground (by decide) rfl rfl rfl rfl (fun h ha hf => ?_)
              refine mm_aload_n dX12_write_72 rfl 0 rfl ?_
              refine rm_getA 53 dX12_write_73 ha zf_wantedValue (by decide) rfl ?_
              refine mm_iconst (v := nI 0) dX12_write_76 (by decide) ?_
              refine mm_iload_n dX12_write_77 rfl 3 rfl ?_
              refine rm_iast (k := 53) dX12_write_78 ha hf rfl rfl rfl (show 0 < 3 from (by decide)) (fun h ha hf => ?_)
              refine mm_aload_n dX12_write_79 rfl 0 rfl ?_
              refine rm_getA 53 dX12_write_80 ha zf_wantedValue (by decide) rfl ?_
              refine mm_iconst (v := nI 1) dX12_write_83 (by decide) ?_
              refine mm_iload dX12_write_84 4 rfl ?_
              refine rm_iast (k := 53) dX12_write_86 ha hf rfl rfl rfl (show 1 < 3 from (by decide)) (fun h ha hf => ?_)
              refine mm_aload_n dX12_write_87 rfl 0 rfl ?_
              refine rm_getA 53 dX12_write_88 ha zf_wantedValue (by decide) rfl ?_
              refine mm_iconst (v := nI 2) dX12_write_91 (by decide) ?_
              refine mm_iload dX12_write_92 5 rfl ?_
              refine rm_iast (k := 53) dX12_write_94 ha hf rfl rfl rfl (show 2 < 3 from (by decide)) (fun h ha hf => ?_)
              obtain ⟨F5, hF5⟩ : ∃ F5, F5 = (upd (upd (upd F 42 ((-1))) 12 (nI (sg))) 13 (nI (gd_ sg))) := ⟨_, rfl⟩
              obtain ⟨A5, hA5⟩ : ∃ A5, A5 = (rm_up (rm_up (rm_up A 53 (upd (A 53) (0) (a))) 53 (upd ((rm_up A 53 (upd (A 53) (0) (a))) 53) (1) (b))) 53 (upd ((rm_up (rm_up A 53 (upd (A 53) (0) (a))) 53 (upd ((rm_up A 53 (upd (A 53) (0) (a))) 53) (1) (b))) 53) (2) (c))) := ⟨_, rfl⟩
              rw [← hF5] at ha
              rw [← hA5] at ha
              have e53 : A5 53 = upd (upd (upd (A 53) 0 a) 1 b) 2 c := by rw [hA5]; simp only [rm_up_s]
              have hJ0 : wJ sg wv F A F5 A5 := by
                refine wJ_b hI hs (by rw [hF5, pk_un (by decide), pk_un (by decide), pk_us]) (by rw [hF5, pk_un (by decide), pk_us]) (by rw [hF5, pk_us]) (fun j h1 h2 h3 => by rw [hF5, pk_un h3, pk_un h2, pk_un h1]) (fun k hk => ?_) (fun j hj => by rw [hA5, rm_up_n hj, rm_up_n hj, rm_up_n hj])
                rw [e53, hwv]
                rcases (show k = 0 ∨ k = 1 ∨ k = 2 by omega) with e | e | e
                · rw [e, pk_un (by decide), pk_un (by decide), pk_us]; rfl
                · rw [e, pk_un (by decide), pk_us]; rfl
                · rw [e, pk_us]; rfl
              refine mm_iload_n dX12_write_95 rfl 2 rfl ?_
              refine mm_iconst (v := nI 1) dX12_write_96 (by decide) ?_
              refine mn_icmp_ne (tgt := 105) dX12_write_97 (by decide) (by omega) (by omega) (fun c97 => ?_) (fun c97 => ?_)
              · refine mm_iload_n dX12_write_105 rfl 2 rfl ?_
                refine mm_iconst (v := nI 2) dX12_write_106 (by decide) ?_
                refine mn_icmp_ne (tgt := 116) dX12_write_107 (by decide) (by omega) (by omega) (fun c107 => ?_) (fun c107 => ?_)
                · refine mm_sipush (v := nI 2744) dX12_write_116 (by decide) ?_
                  refine mn_top (u := .int (nI (al))) (congrArg Value.int (congrArg nI (by rw [hal]; rcases (show n = 1 ∨ n = 2 ∨ n = 3 by omega) with e | e | e <;> first | (rw [e]; done) | (rw [e]; rfl) | omega))) ?_
                  refine mm_istore (L' := [(6, .int (nI (al))), (0, .ref (o)), (1, .int (nI (sg))), (2, .int (nI (n))), (3, .int (a)), (4, .int (b)), (5, .int (c))]) dX12_write_119 (by decide) rfl ?_
                  refine mm_iconst (v := nI 0) dX12_write_121 (by decide) ?_
                  refine mn_top (u := .int (nI (Bool.toNat (false)))) (congrArg Value.int (rfl)) ?_
                  refine mm_istore (L' := [(7, .int (nI (Bool.toNat (false)))), (6, .int (nI (al))), (0, .ref (o)), (1, .int (nI (sg))), (2, .int (nI (n))), (3, .int (a)), (4, .int (b)), (5, .int (c))]) dX12_write_122 (by decide) rfl ?_
                  refine mm_iconst (v := nI 0) dX12_write_124 (by decide) ?_
                  refine mm_istore (L' := [(8, .int (nI (0))), (7, .int (nI (Bool.toNat (false)))), (6, .int (nI (al))), (0, .ref (o)), (1, .int (nI (sg))), (2, .int (nI (n))), (3, .int (a)), (4, .int (b)), (5, .int (c))]) dX12_write_125 (by decide) rfl ?_
                  refine mn_sub [3, 5, 2, 1, 0] rfl ?_
                  exact KO (n + 1) 0 F5 A5 _ (Nat.zero_add _) (by rw [Nat.zero_mul]; rfl) hJ0 ha hf
                · refine mm_sipush (v := nI 196) dX12_write_110 (by decide) ?_
                  refine mm_goto (tgt := 119) dX12_write_113 (by decide) ?_
                  refine mn_top (u := .int (nI (al))) (congrArg Value.int (congrArg nI (by rw [hal]; rcases (show n = 1 ∨ n = 2 ∨ n = 3 by omega) with e | e | e <;> first | (rw [e]; done) | (rw [e]; rfl) | omega))) ?_
                  refine mm_istore (L' := [(6, .int (nI (al))), (0, .ref (o)), (1, .int (nI (sg))), (2, .int (nI (n))), (3, .int (a)), (4, .int (b)), (5, .int (c))]) dX12_write_119 (by decide) rfl ?_
                  refine mm_iconst (v := nI 0) dX12_write_121 (by decide) ?_
                  refine mn_top (u := .int (nI (Bool.toNat (false)))) (congrArg Value.int (rfl)) ?_
                  refine mm_istore (L' := [(7, .int (nI (Bool.toNat (false)))), (6, .int (nI (al))), (0, .ref (o)), (1, .int (nI (sg))), (2, .int (nI (n))), (3, .int (a)), (4, .int (b)), (5, .int (c))]) dX12_write_122 (by decide) rfl ?_
                  refine mm_iconst (v := nI 0) dX12_write_124 (by decide) ?_
                  refine mm_istore (L' := [(8, .int (nI (0))), (7, .int (nI (Bool.toNat (false)))), (6, .int (nI (al))), (0, .ref (o)), (1, .int (nI (sg))), (2, .int (nI (n))), (3, .int (a)), (4, .int (b)), (5, .int (c))]) dX12_write_125 (by decide) rfl ?_
                  refine mn_sub [3, 5, 2, 1, 0] rfl ?_
                  exact KO (n + 1) 0 F5 A5 _ (Nat.zero_add _) (by rw [Nat.zero_mul]; rfl) hJ0 ha hf
              · refine mm_bipush (v := nI 14) dX12_write_100 (by decide) ?_
                refine mm_goto (tgt := 119) dX12_write_102 (by decide) ?_
                refine mn_top (u := .int (nI (al))) (congrArg Value.int (congrArg nI (by rw [hal]; rcases (show n = 1 ∨ n = 2 ∨ n = 3 by omega) with e | e | e <;> first | (rw [e]; done) | (rw [e]; rfl) | omega))) ?_
                refine mm_istore (L' := [(6, .int (nI (al))), (0, .ref (o)), (1, .int (nI (sg))), (2, .int (nI (n))), (3, .int (a)), (4, .int (b)), (5, .int (c))]) dX12_write_119 (by decide) rfl ?_
                refine mm_iconst (v := nI 0) dX12_write_121 (by decide) ?_
                refine mn_top (u := .int (nI (Bool.toNat (false)))) (congrArg Value.int (rfl)) ?_
                refine mm_istore (L' := [(7, .int (nI (Bool.toNat (false)))), (6, .int (nI (al))), (0, .ref (o)), (1, .int (nI (sg))), (2, .int (nI (n))), (3, .int (a)), (4, .int (b)), (5, .int (c))]) dX12_write_122 (by decide) rfl ?_
                refine mm_iconst (v := nI 0) dX12_write_124 (by decide) ?_
                refine mm_istore (L' := [(8, .int (nI (0))), (7, .int (nI (Bool.toNat (false)))), (6, .int (nI (al))), (0, .ref (o)), (1, .int (nI (sg))), (2, .int (nI (n))), (3, .int (a)), (4, .int (b)), (5, .int (c))]) dX12_write_125 (by decide) rfl ?_
                refine mn_sub [3, 5, 2, 1, 0] rfl ?_
                exact KO (n + 1) 0 F5 A5 _ (Nat.zero_add _) (by rw [Nat.zero_mul]; rfl) hJ0 ha hf
            · refine mm_bipush (v := (-2)) dX12_write_51 (by decide) ?_
              first | exact absurd hg.1 (Int32.not_le.mpr c26) | (rcases hg.2.1 with z1 | z1; omega; exact absurd z1 (Int32.not_le.mpr c37)) | (rcases hg.2.2 with z1 | z1; omega; exact absurd z1 c48)
        · refine mm_iload dX12_write_34 4 rfl ?_
          refine mm_iconst (v := nI 1) dX12_write_36 (by decide) ?_
          refine mm_icmp_lt (tgt := 51) dX12_write_37 (by decide) (fun c37 => ?_) (fun c37 => ?_)
          · refine mm_bipush (v := (-2)) dX12_write_51 (by decide) ?_
            first | exact absurd hg.1 (Int32.not_le.mpr c26) | (rcases hg.2.1 with z1 | z1; omega; exact absurd z1 (Int32.not_le.mpr c37)) | (rcases hg.2.2 with z1 | z1; omega; exact absurd z1 c48)
          · refine mm_iload_n dX12_write_40 rfl 2 rfl ?_
            refine mm_iconst (v := nI 2) dX12_write_41 (by decide) ?_
            refine mn_icmp_le (tgt := 54) dX12_write_42 (by decide) (by omega) (by omega) (fun c42 => ?_) (fun c42 => ?_)
            · refine mm_aload_n dX12_write_54 rfl 0 rfl ?_
              refine mm_iconst (v := (-1)) dX12_write_55 (by decide) ?_
              refine rm_putI 42 dX12_write_56 ha hf zf_ready (by decide) rfl rfl rfl rfl (fun h ha hf => ?_)
              refine mm_aload_n dX12_write_59 rfl 0 rfl ?_
              refine mm_iload_n dX12_write_60 rfl 1 rfl ?_
              refine rm_putI 12 dX12_write_61 ha hf zf_sign (by decide) rfl rfl rfl rfl (fun h ha hf => ?_)
              refine mm_aload_n dX12_write_64 rfl 0 rfl ?_
              refine mm_iload_n dX12_write_65 rfl 1 rfl ?_
              refine rm_callSr (As := [.int (nI (sg))]) (rest := [.ref (o)]) (d2 := 1) dX12_write_66 zc_groundOf rfl rfl (Nat.le_of_ble_eq_true rfl) (Nat.le_of_ble_eq_true rfl) (by decide) (tm_groundOf hs) ?_
              refine rm_putI 13 dX12_write_69 ha hf zf_ground (by decide) rfl rfl rfl rfl (fun h ha hf => ?_)
              refine mm_aload_n dX12_write_72 rfl 0 rfl ?_
              refine rm_getA 53 dX12_write_73 ha zf_wantedValue (by decide) rfl ?_
              refine mm_iconst (v := nI 0) dX12_write_76 (by decide) ?_
              refine mm_iload_n dX12_write_77 rfl 3 rfl ?_
              refine rm_iast (k := 53) dX12_write_78 ha hf rfl rfl rfl (show 0 < 3 from (by decide)) (fun h ha hf => ?_)
              refine mm_aload_n dX12_write_79 rfl 0 rfl ?_
              refine rm_getA 53 dX12_write_80 ha zf_wantedValue (by decide) rfl ?_
              refine mm_iconst (v := nI 1) dX12_write_83 (by decide) ?_
              refine mm_iload dX12_write_84 4 rfl ?_
              refine rm_iast (k := 53) dX12_write_86 ha hf rfl rfl rfl (show 1 < 3 from (by decide)) (fun h ha hf => ?_)
              refine mm_aload_n dX12_write_87 rfl 0 rfl ?_
              refine rm_getA 53 dX12_write_88 ha zf_wantedValue (by decide) rfl ?_
              refine mm_iconst (v := nI 2) dX12_write_91 (by decide) ?_
              refine mm_iload dX12_write_92 5 rfl ?_
              refine rm_iast (k := 53) dX12_write_94 ha hf rfl rfl rfl (show 2 < 3 from (by decide)) (fun h ha hf => ?_)
              obtain ⟨F5, hF5⟩ : ∃ F5, F5 = (upd (upd (upd F 42 ((-1))) 12 (nI (sg))) 13 (nI (gd_ sg))) := ⟨_, rfl⟩
              obtain ⟨A5, hA5⟩ : ∃ A5, A5 = (rm_up (rm_up (rm_up A 53 (upd (A 53) (0) (a))) 53 (upd ((rm_up A 53 (upd (A 53) (0) (a))) 53) (1) (b))) 53 (upd ((rm_up (rm_up A 53 (upd (A 53) (0) (a))) 53 (upd ((rm_up A 53 (upd (A 53) (0) (a))) 53) (1) (b))) 53) (2) (c))) := ⟨_, rfl⟩
              rw [← hF5] at ha
              rw [← hA5] at ha
              have e53 : A5 53 = upd (upd (upd (A 53) 0 a) 1 b) 2 c := by rw [hA5]; simp only [rm_up_s]
              have hJ0 : wJ sg wv F A F5 A5 := by
                refine wJ_b hI hs (by rw [hF5, pk_un (by decide), pk_un (by decide), pk_us]) (by rw [hF5, pk_un (by decide), pk_us]) (by rw [hF5, pk_us]) (fun j h1 h2 h3 => by rw [hF5, pk_un h3, pk_un h2, pk_un h1]) (fun k hk => ?_) (fun j hj => by rw [hA5, rm_up_n hj, rm_up_n hj, rm_up_n hj])
                rw [e53, hwv]
                rcases (show k = 0 ∨ k = 1 ∨ k = 2 by omega) with e | e | e
                · rw [e, pk_un (by decide), pk_un (by decide), pk_us]; rfl
                · rw [e, pk_un (by decide), pk_us]; rfl
                · rw [e, pk_us]; rfl
              refine mm_iload_n dX12_write_95 rfl 2 rfl ?_
              refine mm_iconst (v := nI 1) dX12_write_96 (by decide) ?_
              refine mn_icmp_ne (tgt := 105) dX12_write_97 (by decide) (by omega) (by omega) (fun c97 => ?_) (fun c97 => ?_)
              · refine mm_iload_n dX12_write_105 rfl 2 rfl ?_
                refine mm_iconst (v := nI 2) dX12_write_106 (by decide) ?_
                refine mn_icmp_ne (tgt := 116) dX12_write_107 (by decide) (by omega) (by omega) (fun c107 => ?_) (fun c107 => ?_)
                · refine mm_sipush (v := nI 2744) dX12_write_116 (by decide) ?_
                  refine mn_top (u := .int (nI (al))) (congrArg Value.int (congrArg nI (by rw [hal]; rcases (show n = 1 ∨ n = 2 ∨ n = 3 by omega) with e | e | e <;> first | (rw [e]; done) | (rw [e]; rfl) | omega))) ?_
                  refine mm_istore (L' := [(6, .int (nI (al))), (0, .ref (o)), (1, .int (nI (sg))), (2, .int (nI (n))), (3, .int (a)), (4, .int (b)), (5, .int (c))]) dX12_write_119 (by decide) rfl ?_
                  refine mm_iconst (v := nI 0) dX12_write_121 (by decide) ?_
                  refine mn_top (u := .int (nI (Bool.toNat (false)))) (congrArg Value.int (rfl)) ?_
                  refine mm_istore (L' := [(7, .int (nI (Bool.toNat (false)))), (6, .int (nI (al))), (0, .ref (o)), (1, .int (nI (sg))), (2, .int (nI (n))), (3, .int (a)), (4, .int (b)), (5, .int (c))]) dX12_write_122 (by decide) rfl ?_
                  refine mm_iconst (v := nI 0) dX12_write_124 (by decide) ?_
                  refine mm_istore (L' := [(8, .int (nI (0))), (7, .int (nI (Bool.toNat (false)))), (6, .int (nI (al))), (0, .ref (o)), (1, .int (nI (sg))), (2, .int (nI (n))), (3, .int (a)), (4, .int (b)), (5, .int (c))]) dX12_write_125 (by decide) rfl ?_
                  refine mn_sub [3, 5, 2, 1, 0] rfl ?_
                  exact KO (n + 1) 0 F5 A5 _ (Nat.zero_add _) (by rw [Nat.zero_mul]; rfl) hJ0 ha hf
                · refine mm_sipush (v := nI 196) dX12_write_110 (by decide) ?_
                  refine mm_goto (tgt := 119) dX12_write_113 (by decide) ?_
                  refine mn_top (u := .int (nI (al))) (congrArg Value.int (congrArg nI (by rw [hal]; rcases (show n = 1 ∨ n = 2 ∨ n = 3 by omega) with e | e | e <;> first | (rw [e]; done) | (rw [e]; rfl) | omega))) ?_
                  refine mm_istore (L' := [(6, .int (nI (al))), (0, .ref (o)), (1, .int (nI (sg))), (2, .int (nI (n))), (3, .int (a)), (4, .int (b)), (5, .int (c))]) dX12_write_119 (by decide) rfl ?_
                  refine mm_iconst (v := nI 0) dX12_write_121 (by decide) ?_
                  refine mn_top (u := .int (nI (Bool.toNat (false)))) (congrArg Value.int (rfl)) ?_
                  refine mm_istore (L' := [(7, .int (nI (Bool.toNat (false)))), (6, .int (nI (al))), (0, .ref (o)), (1, .int (nI (sg))), (2, .int (nI (n))), (3, .int (a)), (4, .int (b)), (5, .int (c))]) dX12_write_122 (by decide) rfl ?_
                  refine mm_iconst (v := nI 0) dX12_write_124 (by decide) ?_
                  refine mm_istore (L' := [(8, .int (nI (0))), (7, .int (nI (Bool.toNat (false)))), (6, .int (nI (al))), (0, .ref (o)), (1, .int (nI (sg))), (2, .int (nI (n))), (3, .int (a)), (4, .int (b)), (5, .int (c))]) dX12_write_125 (by decide) rfl ?_
                  refine mn_sub [3, 5, 2, 1, 0] rfl ?_
                  exact KO (n + 1) 0 F5 A5 _ (Nat.zero_add _) (by rw [Nat.zero_mul]; rfl) hJ0 ha hf
              · refine mm_bipush (v := nI 14) dX12_write_100 (by decide) ?_
                refine mm_goto (tgt := 119) dX12_write_102 (by decide) ?_
                refine mn_top (u := .int (nI (al))) (congrArg Value.int (congrArg nI (by rw [hal]; rcases (show n = 1 ∨ n = 2 ∨ n = 3 by omega) with e | e | e <;> first | (rw [e]; done) | (rw [e]; rfl) | omega))) ?_
                refine mm_istore (L' := [(6, .int (nI (al))), (0, .ref (o)), (1, .int (nI (sg))), (2, .int (nI (n))), (3, .int (a)), (4, .int (b)), (5, .int (c))]) dX12_write_119 (by decide) rfl ?_
                refine mm_iconst (v := nI 0) dX12_write_121 (by decide) ?_
                refine mn_top (u := .int (nI (Bool.toNat (false)))) (congrArg Value.int (rfl)) ?_
                refine mm_istore (L' := [(7, .int (nI (Bool.toNat (false)))), (6, .int (nI (al))), (0, .ref (o)), (1, .int (nI (sg))), (2, .int (nI (n))), (3, .int (a)), (4, .int (b)), (5, .int (c))]) dX12_write_122 (by decide) rfl ?_
                refine mm_iconst (v := nI 0) dX12_write_124 (by decide) ?_
                refine mm_istore (L' := [(8, .int (nI (0))), (7, .int (nI (Bool.toNat (false)))), (6, .int (nI (al))), (0, .ref (o)), (1, .int (nI (sg))), (2, .int (nI (n))), (3, .int (a)), (4, .int (b)), (5, .int (c))]) dX12_write_125 (by decide) rfl ?_
                refine mn_sub [3, 5, 2, 1, 0] rfl ?_
                exact KO (n + 1) 0 F5 A5 _ (Nat.zero_add _) (by rw [Nat.zero_mul]; rfl) hJ0 ha hf
            · refine mm_iload dX12_write_45 5 rfl ?_
              refine mm_iconst (v := nI 1) dX12_write_47 (by decide) ?_
              refine mm_icmp_ge (tgt := 54) dX12_write_48 (by decide) (fun c48 => ?_) (fun c48 => ?_)
              · refine mm_aload_n dX12_write_54 rfl 0 rfl ?_
                refine mm_iconst (v := (-1)) dX12_write_55 (by decide) ?_
                refine rm_putI 42 dX12_write_56 ha hf zf_ready (by decide) rfl rfl rfl rfl (fun h ha hf => ?_)
                refine mm_aload_n dX12_write_59 rfl 0 rfl ?_
                refine mm_iload_n dX12_write_60 rfl 1 rfl ?_
                refine rm_putI 12 dX12_write_61 ha hf zf_sign (by decide) rfl rfl rfl rfl (fun h ha hf => ?_)
                refine mm_aload_n dX12_write_64 rfl 0 rfl ?_
                refine mm_iload_n dX12_write_65 rfl 1 rfl ?_
                refine rm_callSr (As := [.int (nI (sg))]) (rest := [.ref (o)]) (d2 := 1) dX12_write_66 zc_groundOf rfl rfl (Nat.le_of_ble_eq_true rfl) (Nat.le_of_ble_eq_true rfl) (by decide) (tm_groundOf hs) ?_
                refine rm_putI 13 dX12_write_69 ha hf zf_ground (by decide) rfl rfl rfl rfl (fun h ha hf => ?_)
                refine mm_aload_n dX12_write_72 rfl 0 rfl ?_
                refine rm_getA 53 dX12_write_73 ha zf_wantedValue (by decide) rfl ?_
                refine mm_iconst (v := nI 0) dX12_write_76 (by decide) ?_
                refine mm_iload_n dX12_write_77 rfl 3 rfl ?_
                refine rm_iast (k := 53) dX12_write_78 ha hf rfl rfl rfl (show 0 < 3 from (by decide)) (fun h ha hf => ?_)
                refine mm_aload_n dX12_write_79 rfl 0 rfl ?_
                refine rm_getA 53 dX12_write_80 ha zf_wantedValue (by decide) rfl ?_
                refine mm_iconst (v := nI 1) dX12_write_83 (by decide) ?_
                refine mm_iload dX12_write_84 4 rfl ?_
                refine rm_iast (k := 53) dX12_write_86 ha hf rfl rfl rfl (show 1 < 3 from (by decide)) (fun h ha hf => ?_)
                refine mm_aload_n dX12_write_87 rfl 0 rfl ?_
                refine rm_getA 53 dX12_write_88 ha zf_wantedValue (by decide) rfl ?_
                refine mm_iconst (v := nI 2) dX12_write_91 (by decide) ?_
                refine mm_iload dX12_write_92 5 rfl ?_
                refine rm_iast (k := 53) dX12_write_94 ha hf rfl rfl rfl (show 2 < 3 from (by decide)) (fun h ha hf => ?_)
                obtain ⟨F5, hF5⟩ : ∃ F5, F5 = (upd (upd (upd F 42 ((-1))) 12 (nI (sg))) 13 (nI (gd_ sg))) := ⟨_, rfl⟩
                obtain ⟨A5, hA5⟩ : ∃ A5, A5 = (rm_up (rm_up (rm_up A 53 (upd (A 53) (0) (a))) 53 (upd ((rm_up A 53 (upd (A 53) (0) (a))) 53) (1) (b))) 53 (upd ((rm_up (rm_up A 53 (upd (A 53) (0) (a))) 53 (upd ((rm_up A 53 (upd (A 53) (0) (a))) 53) (1) (b))) 53) (2) (c))) := ⟨_, rfl⟩
                rw [← hF5] at ha
                rw [← hA5] at ha
                have e53 : A5 53 = upd (upd (upd (A 53) 0 a) 1 b) 2 c := by rw [hA5]; simp only [rm_up_s]
                have hJ0 : wJ sg wv F A F5 A5 := by
                  refine wJ_b hI hs (by rw [hF5, pk_un (by decide), pk_un (by decide), pk_us]) (by rw [hF5, pk_un (by decide), pk_us]) (by rw [hF5, pk_us]) (fun j h1 h2 h3 => by rw [hF5, pk_un h3, pk_un h2, pk_un h1]) (fun k hk => ?_) (fun j hj => by rw [hA5, rm_up_n hj, rm_up_n hj, rm_up_n hj])
                  rw [e53, hwv]
                  rcases (show k = 0 ∨ k = 1 ∨ k = 2 by omega) with e | e | e
                  · rw [e, pk_un (by decide), pk_un (by decide), pk_us]; rfl
                  · rw [e, pk_un (by decide), pk_us]; rfl
                  · rw [e, pk_us]; rfl
                refine mm_iload_n dX12_write_95 rfl 2 rfl ?_
                refine mm_iconst (v := nI 1) dX12_write_96 (by decide) ?_
                refine mn_icmp_ne (tgt := 105) dX12_write_97 (by decide) (by omega) (by omega) (fun c97 => ?_) (fun c97 => ?_)
                · refine mm_iload_n dX12_write_105 rfl 2 rfl ?_
                  refine mm_iconst (v := nI 2) dX12_write_106 (by decide) ?_
                  refine mn_icmp_ne (tgt := 116) dX12_write_107 (by decide) (by omega) (by omega) (fun c107 => ?_) (fun c107 => ?_)
                  · refine mm_sipush (v := nI 2744) dX12_write_116 (by decide) ?_
                    refine mn_top (u := .int (nI (al))) (congrArg Value.int (congrArg nI (by rw [hal]; rcases (show n = 1 ∨ n = 2 ∨ n = 3 by omega) with e | e | e <;> first | (rw [e]; done) | (rw [e]; rfl) | omega))) ?_
                    refine mm_istore (L' := [(6, .int (nI (al))), (0, .ref (o)), (1, .int (nI (sg))), (2, .int (nI (n))), (3, .int (a)), (4, .int (b)), (5, .int (c))]) dX12_write_119 (by decide) rfl ?_
                    refine mm_iconst (v := nI 0) dX12_write_121 (by decide) ?_
                    refine mn_top (u := .int (nI (Bool.toNat (false)))) (congrArg Value.int (rfl)) ?_
                    refine mm_istore (L' := [(7, .int (nI (Bool.toNat (false)))), (6, .int (nI (al))), (0, .ref (o)), (1, .int (nI (sg))), (2, .int (nI (n))), (3, .int (a)), (4, .int (b)), (5, .int (c))]) dX12_write_122 (by decide) rfl ?_
                    refine mm_iconst (v := nI 0) dX12_write_124 (by decide) ?_
                    refine mm_istore (L' := [(8, .int (nI (0))), (7, .int (nI (Bool.toNat (false)))), (6, .int (nI (al))), (0, .ref (o)), (1, .int (nI (sg))), (2, .int (nI (n))), (3, .int (a)), (4, .int (b)), (5, .int (c))]) dX12_write_125 (by decide) rfl ?_
                    refine mn_sub [3, 5, 2, 1, 0] rfl ?_
                    exact KO (n + 1) 0 F5 A5 _ (Nat.zero_add _) (by rw [Nat.zero_mul]; rfl) hJ0 ha hf
                  · refine mm_sipush (v := nI 196) dX12_write_110 (by decide) ?_
                    refine mm_goto (tgt := 119) dX12_write_113 (by decide) ?_
                    refine mn_top (u := .int (nI (al))) (congrArg Value.int (congrArg nI (by rw [hal]; rcases (show n = 1 ∨ n = 2 ∨ n = 3 by omega) with e | e | e <;> first | (rw [e]; done) | (rw [e]; rfl) | omega))) ?_
                    refine mm_istore (L' := [(6, .int (nI (al))), (0, .ref (o)), (1, .int (nI (sg))), (2, .int (nI (n))), (3, .int (a)), (4, .int (b)), (5, .int (c))]) dX12_write_119 (by decide) rfl ?_
                    refine mm_iconst (v := nI 0) dX12_write_121 (by decide) ?_
                    refine mn_top (u := .int (nI (Bool.toNat (false)))) (congrArg Value.int (rfl)) ?_
                    refine mm_istore (L' := [(7, .int (nI (Bool.toNat (false)))), (6, .int (nI (al))), (0, .ref (o)), (1, .int (nI (sg))), (2, .int (nI (n))), (3, .int (a)), (4, .int (b)), (5, .int (c))]) dX12_write_122 (by decide) rfl ?_
                    refine mm_iconst (v := nI 0) dX12_write_124 (by decide) ?_
                    refine mm_istore (L' := [(8, .int (nI (0))), (7, .int (nI (Bool.toNat (false)))), (6, .int (nI (al))), (0, .ref (o)), (1, .int (nI (sg))), (2, .int (nI (n))), (3, .int (a)), (4, .int (b)), (5, .int (c))]) dX12_write_125 (by decide) rfl ?_
                    refine mn_sub [3, 5, 2, 1, 0] rfl ?_
                    exact KO (n + 1) 0 F5 A5 _ (Nat.zero_add _) (by rw [Nat.zero_mul]; rfl) hJ0 ha hf
                · refine mm_bipush (v := nI 14) dX12_write_100 (by decide) ?_
                  refine mm_goto (tgt := 119) dX12_write_102 (by decide) ?_
                  refine mn_top (u := .int (nI (al))) (congrArg Value.int (congrArg nI (by rw [hal]; rcases (show n = 1 ∨ n = 2 ∨ n = 3 by omega) with e | e | e <;> first | (rw [e]; done) | (rw [e]; rfl) | omega))) ?_
                  refine mm_istore (L' := [(6, .int (nI (al))), (0, .ref (o)), (1, .int (nI (sg))), (2, .int (nI (n))), (3, .int (a)), (4, .int (b)), (5, .int (c))]) dX12_write_119 (by decide) rfl ?_
                  refine mm_iconst (v := nI 0) dX12_write_121 (by decide) ?_
                  refine mn_top (u := .int (nI (Bool.toNat (false)))) (congrArg Value.int (rfl)) ?_
                  refine mm_istore (L' := [(7, .int (nI (Bool.toNat (false)))), (6, .int (nI (al))), (0, .ref (o)), (1, .int (nI (sg))), (2, .int (nI (n))), (3, .int (a)), (4, .int (b)), (5, .int (c))]) dX12_write_122 (by decide) rfl ?_
                  refine mm_iconst (v := nI 0) dX12_write_124 (by decide) ?_
                  refine mm_istore (L' := [(8, .int (nI (0))), (7, .int (nI (Bool.toNat (false)))), (6, .int (nI (al))), (0, .ref (o)), (1, .int (nI (sg))), (2, .int (nI (n))), (3, .int (a)), (4, .int (b)), (5, .int (c))]) dX12_write_125 (by decide) rfl ?_
                  refine mn_sub [3, 5, 2, 1, 0] rfl ?_
                  exact KO (n + 1) 0 F5 A5 _ (Nat.zero_add _) (by rw [Nat.zero_mul]; rfl) hJ0 ha hf
              · refine mm_bipush (v := (-2)) dX12_write_51 (by decide) ?_
                first | exact absurd hg.1 (Int32.not_le.mpr c26) | (rcases hg.2.1 with z1 | z1; omega; exact absurd z1 (Int32.not_le.mpr c37)) | (rcases hg.2.2 with z1 | z1; omega; exact absurd z1 c48)
