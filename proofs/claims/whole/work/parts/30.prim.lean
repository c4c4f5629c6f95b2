theorem lc_lt : ∀ k, k < 10 → nI k - nI 1 < nI k := by decide +kernel
set_option maxRecDepth 100000 in
set_option maxHeartbeats 4000000 in
theorem tm_fullOf {l : Launch} {D : va_G} {aa : Nat → ClassId} {b0 : Nat} {h : mm_H} {sg kind : Nat} (hsg : sg < 16) (hkd : kind < 7) : mm_V (zz_K l D aa b0) 1 yX12_fullOf cX12_fullOf 4 (some .int) 0 [(0, .int (nI (sg))), (1, .int (nI (kind)))] [] h 0 0 (fun r h' => h' = h ∧ r = some (.int (nI (fl_ sg kind)))) := by
  have lp : ∀ (n f : Nat), kind + n ≤ 6 → fl_a sg kind n f = fl_ sg kind → mm_V (zz_K l D aa b0) 1 yX12_fullOf cX12_fullOf 4 (some .int) 4 [(0, .int (nI (sg))), (1, .int (nI (kind))), (2, .int (nI (f))), (3, .int (nI (kind + n) - nI 1))] [] h 0 0 (fun r h' => h' = h ∧ r = some (.int (nI (fl_ sg kind)))) := by
    intro n
    induction n with
    | zero =>
      intro f hn hf
      refine mm_iload_n dX12_fullOf_4 rfl 3 rfl ?_
      refine mm_iload_n dX12_fullOf_5 rfl 1 rfl ?_
      refine mm_icmp_lt (tgt := 33) dX12_fullOf_6 (by decide) (fun c6 => ?_) (fun c6 => ?_)
      · refine mm_iload_n dX12_fullOf_33 rfl 2 rfl ?_
        exact mm_iret dX12_fullOf_34 rfl (⟨rfl, by rw [← hf]; rfl⟩)
      · exact absurd (lc_lt kind (by omega)) c6
    | succ n ih =>
      intro f hn hf
      rw [← Nat.add_assoc, lc_p (kind + n)]
      refine mm_iload_n dX12_fullOf_4 rfl 3 rfl ?_
      refine mm_iload_n dX12_fullOf_5 rfl 1 rfl ?_
      refine mn_icmp_lt (tgt := 33) dX12_fullOf_6 (by decide) (by omega) (by omega) (fun c6 => ?_) (fun c6 => ?_)
      · omega
      · refine mm_iload_n dX12_fullOf_9 rfl 0 rfl ?_
        refine mm_iload_n dX12_fullOf_10 rfl 3 rfl ?_
        refine rm_callSr (As := [.int (nI (sg)), .int (nI (kind + n))]) (rest := []) (d2 := 0) dX12_fullOf_11 zc_isPerfect rfl rfl (Nat.le_of_ble_eq_true rfl) (Nat.le_of_ble_eq_true rfl) (by decide) (tm_isPerfect hsg (by omega)) ?_
        refine mn_ifB_eq (tgt := 23) dX12_fullOf_14 (by decide) (fun c14 => ?_) (fun c14 => ?_)
        · refine mm_iconst (v := nI 2) dX12_fullOf_23 (by decide) ?_
          refine mm_iload_n dX12_fullOf_24 rfl 2 rfl ?_
          refine mn_imul dX12_fullOf_25 ?_
          refine mm_istore_n (L' := [(2, .int (nI ((2) * (f)))), (0, .int (nI (sg))), (1, .int (nI (kind))), (3, .int (nI (kind + n)))]) dX12_fullOf_26 rfl (by decide) rfl ?_
          refine mm_iinc (v := nI (kind + n) - nI 1) (L' := [(3, .int (nI (kind + n) - nI 1)), (2, .int (nI ((2) * (f)))), (0, .int (nI (sg))), (1, .int (nI (kind)))]) dX12_fullOf_27 3 rfl (lc_m (kind + n)) (by decide) rfl ?_
          refine mm_goto (tgt := 4) dX12_fullOf_30 (by decide) ?_
          refine mn_sub [2, 3, 1, 0] rfl ?_
          exact ih _ (by omega) (by rw [← hf]; show _ = fl_a sg kind n ((if sp_perf sg (kind + n) = true then 3 else 2) * f); rw [if_neg (by rw [c14]; decide)])
        · refine mm_iconst (v := nI 3) dX12_fullOf_17 (by decide) ?_
          refine mm_iload_n dX12_fullOf_18 rfl 2 rfl ?_
          refine mn_imul dX12_fullOf_19 ?_
          refine mm_goto (tgt := 26) dX12_fullOf_20 (by decide) ?_
          refine mm_istore_n (L' := [(2, .int (nI ((3) * (f)))), (0, .int (nI (sg))), (1, .int (nI (kind))), (3, .int (nI (kind + n)))]) dX12_fullOf_26 rfl (by decide) rfl ?_
          refine mm_iinc (v := nI (kind + n) - nI 1) (L' := [(3, .int (nI (kind + n) - nI 1)), (2, .int (nI ((3) * (f)))), (0, .int (nI (sg))), (1, .int (nI (kind)))]) dX12_fullOf_27 3 rfl (lc_m (kind + n)) (by decide) rfl ?_
          refine mm_goto (tgt := 4) dX12_fullOf_30 (by decide) ?_
          refine mn_sub [2, 3, 1, 0] rfl ?_
          exact ih _ (by omega) (by rw [← hf]; show _ = fl_a sg kind n ((if sp_perf sg (kind + n) = true then 3 else 2) * f); rw [if_pos c14])
  refine mm_iconst (v := nI 3) dX12_fullOf_0 (by decide) ?_
  refine mm_istore_n (L' := [(2, .int (nI (3))), (0, .int (nI (sg))), (1, .int (nI (kind)))]) dX12_fullOf_1 rfl (by decide) rfl ?_
  refine mm_iconst (v := nI 5) dX12_fullOf_2 (by decide) ?_
  refine mn_top (u := .int (nI (kind + (6 - kind)) - nI 1)) (congrArg Value.int (by rw [show kind + (6 - kind) = 5 + 1 from by omega, lc_p])) ?_
  refine mm_istore_n (L' := [(3, .int (nI (kind + (6 - kind)) - nI 1)), (2, .int (nI (3))), (0, .int (nI (sg))), (1, .int (nI (kind)))]) dX12_fullOf_3 rfl (by decide) rfl ?_
  refine mn_sub [2, 3, 1, 0] rfl ?_
  exact lp (6 - kind) 3 (by omega) rfl
set_option maxRecDepth 100000 in
set_option maxHeartbeats 4000000 in
theorem tm_full {l : Launch} {D : va_G} {aa : Nat → ClassId} {b0 : Nat} {h : mm_H} {o : Nat} {F : Nat → Int32} {G : Nat → Int64} {A : Nat → Nat → Int32} {B : Nat → Nat → Int64} (ha : rm_at o F G A B h) {w : ro_w} {sg g : Nat} {T : Nat → Nat} (hx : cx_at F A w sg g T) {k : Nat} (hk : k < 7) : mm_V (zz_K l D aa b0) 2 yX12_full cX12_full 2 (some .int) 0 [(0, .ref (o)), (1, .int (nI (k)))] [] h 0 0 (fun r h' => h' = h ∧ r = some (.int (nI (fl_ sg k)))) := by
  refine mm_aload_n dX12_full_0 rfl 0 rfl ?_
  refine rm_getI 12 dX12_full_1 ha zf_sign (by decide) rfl rfl ?_
  refine mn_top (u := .int (nI (sg))) (congrArg Value.int ((hx.2.1.1))) ?_
  refine mm_iload_n dX12_full_4 rfl 1 rfl ?_
  refine rm_callSr (As := [.int (nI (sg)), .int (nI (k))]) (rest := []) (d2 := 1) dX12_full_5 zc_fullOf rfl rfl (Nat.le_of_ble_eq_true rfl) (Nat.le_of_ble_eq_true rfl) (by decide) (tm_fullOf hx.2.1.2 hk) ?_
  exact mm_iret dX12_full_8 rfl (⟨rfl, rfl⟩)
set_option maxRecDepth 100000 in
set_option maxHeartbeats 4000000 in
theorem tm_groundOf {l : Launch} {D : va_G} {aa : Nat → ClassId} {b0 : Nat} {h : mm_H} {sg : Nat} (hsg : sg < 16) : mm_V (zz_K l D aa b0) 1 yX12_groundOf cX12_groundOf 2 (some .int) 0 [(0, .int (nI (sg)))] [] h 0 0 (fun r h' => h' = h ∧ r = some (.int (nI (gd_ sg)))) := by
  refine mm_iconst (v := nI 0) dX12_groundOf_0 (by decide) ?_
  refine mm_istore_n (L' := [(1, .int (nI (0))), (0, .int (nI (sg)))]) dX12_groundOf_1 rfl (by decide) rfl ?_
  refine mm_iload_n dX12_groundOf_2 rfl 0 rfl ?_
  refine mm_iconst (v := nI 4) dX12_groundOf_3 (by decide) ?_
  refine mn_icmp_ge (tgt := 21) dX12_groundOf_4 (by decide) (by omega) (by omega) (fun e0 => ?_) (fun e0 => ?_)
  · omega
  · refine mm_iload_n dX12_groundOf_7 rfl 1 rfl ?_
    refine mm_iload_n dX12_groundOf_8 rfl 0 rfl ?_
    refine rm_callSr (As := [.int (nI (sg)), .int (nI (0))]) (rest := []) (d2 := 0) dX12_groundOf_9 zc_isPerfect rfl rfl (Nat.le_of_ble_eq_true rfl) (Nat.le_of_ble_eq_true rfl) (by decide) (tm_isPerfect hsg (by omega)) ?_
    refine mn_ifB_ne (tgt := 21) dX12_groundOf_12 (by decide) (fun p0 => ?_) (fun p0 => ?_)
    · refine mm_iload_n dX12_groundOf_21 rfl 0 rfl ?_
      exact mm_iret dX12_groundOf_22 rfl (⟨rfl, by unfold gd_; simp_all⟩)
    · refine mn_iinc (m := 1) (L' := [(1, .int (nI (0 + 1))), (0, .int (nI (sg)))]) dX12_groundOf_15 (by decide) 0 rfl (by decide) rfl ?_
      refine mm_goto (tgt := 2) dX12_groundOf_18 (by decide) ?_
      refine mn_sub [1, 0] rfl ?_
      show mm_V (zz_K l D aa b0) 1 yX12_groundOf cX12_groundOf 2 (some .int) 2 [(0, .int (nI (sg))), (1, .int (nI (1)))] [] h 0 0 (fun r h' => h' = h ∧ r = some (.int (nI (gd_ sg))))
      refine mm_iload_n dX12_groundOf_2 rfl 1 rfl ?_
      refine mm_iconst (v := nI 4) dX12_groundOf_3 (by decide) ?_
      refine mn_icmp_ge (tgt := 21) dX12_groundOf_4 (by decide) (by omega) (by omega) (fun e1 => ?_) (fun e1 => ?_)
      · omega
      · refine mm_iload_n dX12_groundOf_7 rfl 0 rfl ?_
        refine mm_iload_n dX12_groundOf_8 rfl 1 rfl ?_
        refine rm_callSr (As := [.int (nI (sg)), .int (nI (1))]) (rest := []) (d2 := 0) dX12_groundOf_9 zc_isPerfect rfl rfl (Nat.le_of_ble_eq_true rfl) (Nat.le_of_ble_eq_true rfl) (by decide) (tm_isPerfect hsg (by omega)) ?_
        refine mn_ifB_ne (tgt := 21) dX12_groundOf_12 (by decide) (fun p1 => ?_) (fun p1 => ?_)
        · refine mm_iload_n dX12_groundOf_21 rfl 1 rfl ?_
          exact mm_iret dX12_groundOf_22 rfl (⟨rfl, by unfold gd_; simp_all⟩)
        · refine mn_iinc (m := 1) (L' := [(1, .int (nI (1 + 1))), (0, .int (nI (sg)))]) dX12_groundOf_15 (by decide) 1 rfl (by decide) rfl ?_
          refine mm_goto (tgt := 2) dX12_groundOf_18 (by decide) ?_
          refine mn_sub [1, 0] rfl ?_
          show mm_V (zz_K l D aa b0) 1 yX12_groundOf cX12_groundOf 2 (some .int) 2 [(0, .int (nI (sg))), (1, .int (nI (2)))] [] h 0 0 (fun r h' => h' = h ∧ r = some (.int (nI (gd_ sg))))
          refine mm_iload_n dX12_groundOf_2 rfl 1 rfl ?_
          refine mm_iconst (v := nI 4) dX12_groundOf_3 (by decide) ?_
          refine mn_icmp_ge (tgt := 21) dX12_groundOf_4 (by decide) (by omega) (by omega) (fun e2 => ?_) (fun e2 => ?_)
          · omega
          · refine mm_iload_n dX12_groundOf_7 rfl 0 rfl ?_
            refine mm_iload_n dX12_groundOf_8 rfl 1 rfl ?_
            refine rm_callSr (As := [.int (nI (sg)), .int (nI (2))]) (rest := []) (d2 := 0) dX12_groundOf_9 zc_isPerfect rfl rfl (Nat.le_of_ble_eq_true rfl) (Nat.le_of_ble_eq_true rfl) (by decide) (tm_isPerfect hsg (by omega)) ?_
            refine mn_ifB_ne (tgt := 21) dX12_groundOf_12 (by decide) (fun p2 => ?_) (fun p2 => ?_)
            · refine mm_iload_n dX12_groundOf_21 rfl 1 rfl ?_
              exact mm_iret dX12_groundOf_22 rfl (⟨rfl, by unfold gd_; simp_all⟩)
            · refine mn_iinc (m := 1) (L' := [(1, .int (nI (2 + 1))), (0, .int (nI (sg)))]) dX12_groundOf_15 (by decide) 1 rfl (by decide) rfl ?_
              refine mm_goto (tgt := 2) dX12_groundOf_18 (by decide) ?_
              refine mn_sub [1, 0] rfl ?_
              show mm_V (zz_K l D aa b0) 1 yX12_groundOf cX12_groundOf 2 (some .int) 2 [(0, .int (nI (sg))), (1, .int (nI (3)))] [] h 0 0 (fun r h' => h' = h ∧ r = some (.int (nI (gd_ sg))))
              refine mm_iload_n dX12_groundOf_2 rfl 1 rfl ?_
              refine mm_iconst (v := nI 4) dX12_groundOf_3 (by decide) ?_
              refine mn_icmp_ge (tgt := 21) dX12_groundOf_4 (by decide) (by omega) (by omega) (fun e3 => ?_) (fun e3 => ?_)
              · omega
              · refine mm_iload_n dX12_groundOf_7 rfl 0 rfl ?_
                refine mm_iload_n dX12_groundOf_8 rfl 1 rfl ?_
                refine rm_callSr (As := [.int (nI (sg)), .int (nI (3))]) (rest := []) (d2 := 0) dX12_groundOf_9 zc_isPerfect rfl rfl (Nat.le_of_ble_eq_true rfl) (Nat.le_of_ble_eq_true rfl) (by decide) (tm_isPerfect hsg (by omega)) ?_
                refine mn_ifB_ne (tgt := 21) dX12_groundOf_12 (by decide) (fun p3 => ?_) (fun p3 => ?_)
                · refine mm_iload_n dX12_groundOf_21 rfl 1 rfl ?_
                  exact mm_iret dX12_groundOf_22 rfl (⟨rfl, by unfold gd_; simp_all⟩)
                · refine mn_iinc (m := 1) (L' := [(1, .int (nI (3 + 1))), (0, .int (nI (sg)))]) dX12_groundOf_15 (by decide) 1 rfl (by decide) rfl ?_
                  refine mm_goto (tgt := 2) dX12_groundOf_18 (by decide) ?_
                  refine mn_sub [1, 0] rfl ?_
                  show mm_V (zz_K l D aa b0) 1 yX12_groundOf cX12_groundOf 2 (some .int) 2 [(0, .int (nI (sg))), (1, .int (nI (4)))] [] h 0 0 (fun r h' => h' = h ∧ r = some (.int (nI (gd_ sg))))
                  refine mm_iload_n dX12_groundOf_2 rfl 1 rfl ?_
                  refine mm_iconst (v := nI 4) dX12_groundOf_3 (by decide) ?_
                  refine mn_icmp_ge (tgt := 21) dX12_groundOf_4 (by decide) (by omega) (by omega) (fun e4 => ?_) (fun e4 => ?_)
                  · refine mm_iload_n dX12_groundOf_21 rfl 1 rfl ?_
                    exact mm_iret dX12_groundOf_22 rfl (⟨rfl, by unfold gd_; simp_all⟩)
                  · omega
set_option maxRecDepth 100000 in
set_option maxHeartbeats 4000000 in
theorem tm_push {l : Launch} {D : va_G} {aa : Nat → ClassId} {b0 : Nat} {h : mm_H} {o : Nat} {F : Nat → Int32} {G : Nat → Int64} {A : Nat → Nat → Int32} {B : Nat → Nat → Int64} {w : ro_w} {sg g : Nat} {T I : Nat → Nat} {rd : Nat} {S : sc_S} {P : tk_P} (tk : tk_at o F G A B h w sg g T I rd S P) {tw tk_ tf tt tr : Nat} (hlen : P.1.length < 400) : mm_V (zz_K l D aa b0) 0 yX12_push cX12_push 6 none 0 [(0, .ref (o)), (1, .int (nI (tw))), (2, .int (nI (tk_))), (3, .int (nI (tf))), (4, .int (nI (tt))), (5, .int (nI (tr)))] [] h 0 0 (fun r h' => r = none ∧ ∃ (F' : Nat → Int32) (A' : Nat → Nat → Int32), tk_at o F' G A' B h' w sg g T I rd S (op_p (tw, tk_, tf, tt, tr) P) ∧ rm_fr o h h' ∧ tk_F F F' ∧ tk_A rd A A') := by
  obtain ⟨ha, hx, hI, hs, hp⟩ := tk
  have hf : rm_fr o h h := rm_fr.rf
  refine mm_aload_n dX12_push_0 rfl 0 rfl ?_
  refine rm_getA 29 dX12_push_1 ha zf_taskWhat (by decide) rfl ?_
  refine mm_aload_n dX12_push_4 rfl 0 rfl ?_
  refine rm_getI 34 dX12_push_5 ha zf_tasks (by decide) rfl rfl ?_
  refine mn_top (u := .int (nI (P.1.length))) (congrArg Value.int ((hp.2.1))) ?_
  refine mm_iload_n dX12_push_8 rfl 1 rfl ?_
  refine rm_iast (k := 29) dX12_push_9 ha hf rfl rfl rfl (show P.1.length < 400 from (by omega)) (fun h ha hf => ?_)
  refine mm_aload_n dX12_push_10 rfl 0 rfl ?_
  refine rm_getA 30 dX12_push_11 ha zf_taskKind (by decide) rfl ?_
  refine mm_aload_n dX12_push_14 rfl 0 rfl ?_
  refine rm_getI 34 dX12_push_15 ha zf_tasks (by decide) rfl rfl ?_
  refine mn_top (u := .int (nI (P.1.length))) (congrArg Value.int ((hp.2.1))) ?_
  refine mm_iload_n dX12_push_18 rfl 2 rfl ?_
  refine rm_iast (k := 30) dX12_push_19 ha hf rfl rfl rfl (show P.1.length < 400 from (by omega)) (fun h ha hf => ?_)
  refine mm_aload_n dX12_push_20 rfl 0 rfl ?_
  refine rm_getA 31 dX12_push_21 ha zf_taskFrom (by decide) rfl ?_
  refine mm_aload_n dX12_push_24 rfl 0 rfl ?_
  refine rm_getI 34 dX12_push_25 ha zf_tasks (by decide) rfl rfl ?_
  refine mn_top (u := .int (nI (P.1.length))) (congrArg Value.int ((hp.2.1))) ?_
  refine mm_iload_n dX12_push_28 rfl 3 rfl ?_
  refine rm_iast (k := 31) dX12_push_29 ha hf rfl rfl rfl (show P.1.length < 400 from (by omega)) (fun h ha hf => ?_)
  refine mm_aload_n dX12_push_30 rfl 0 rfl ?_
  refine rm_getA 32 dX12_push_31 ha zf_taskTo (by decide) rfl ?_
  refine mm_aload_n dX12_push_34 rfl 0 rfl ?_
  refine rm_getI 34 dX12_push_35 ha zf_tasks (by decide) rfl rfl ?_
  refine mn_top (u := .int (nI (P.1.length))) (congrArg Value.int ((hp.2.1))) ?_
  refine mm_iload dX12_push_38 4 rfl ?_
  refine rm_iast (k := 32) dX12_push_40 ha hf rfl rfl rfl (show P.1.length < 400 from (by omega)) (fun h ha hf => ?_)
  refine mm_aload_n dX12_push_41 rfl 0 rfl ?_
  refine rm_getA 33 dX12_push_42 ha zf_taskRank (by decide) rfl ?_
  refine mm_aload_n dX12_push_45 rfl 0 rfl ?_
  refine rm_getI 34 dX12_push_46 ha zf_tasks (by decide) rfl rfl ?_
  refine mn_top (u := .int (nI (P.1.length))) (congrArg Value.int ((hp.2.1))) ?_
  refine mm_iload dX12_push_49 5 rfl ?_
  refine rm_iast (k := 33) dX12_push_51 ha hf rfl rfl rfl (show P.1.length < 400 from (by omega)) (fun h ha hf => ?_)
  refine mm_aload_n dX12_push_52 rfl 0 rfl ?_
  refine mm_dup dX12_push_53 rfl ?_
  refine rm_getI 34 dX12_push_54 ha zf_tasks (by decide) rfl rfl ?_
  refine mn_top (u := .int (nI (P.1.length))) (congrArg Value.int ((hp.2.1))) ?_
  refine mm_iconst (v := nI 1) dX12_push_57 (by decide) ?_
  refine mn_iadd dX12_push_58 ?_
  refine rm_putI 34 dX12_push_59 ha hf zf_tasks (by decide) rfl rfl rfl rfl (fun h ha hf => ?_)
  generalize hA : (rm_up (rm_up (rm_up (rm_up (rm_up A 29 (upd (A 29) (P.1.length) (nI (tw)))) 30 (upd ((rm_up A 29 (upd (A 29) (P.1.length) (nI (tw)))) 30) (P.1.length) (nI (tk_)))) 31 (upd ((rm_up (rm_up A 29 (upd (A 29) (P.1.length) (nI (tw)))) 30 (upd ((rm_up A 29 (upd (A 29) (P.1.length) (nI (tw)))) 30) (P.1.length) (nI (tk_)))) 31) (P.1.length) (nI (tf)))) 32 (upd ((rm_up (rm_up (rm_up A 29 (upd (A 29) (P.1.length) (nI (tw)))) 30 (upd ((rm_up A 29 (upd (A 29) (P.1.length) (nI (tw)))) 30) (P.1.length) (nI (tk_)))) 31 (upd ((rm_up (rm_up A 29 (upd (A 29) (P.1.length) (nI (tw)))) 30 (upd ((rm_up A 29 (upd (A 29) (P.1.length) (nI (tw)))) 30) (P.1.length) (nI (tk_)))) 31) (P.1.length) (nI (tf)))) 32) (P.1.length) (nI (tt)))) 33 (upd ((rm_up (rm_up (rm_up (rm_up A 29 (upd (A 29) (P.1.length) (nI (tw)))) 30 (upd ((rm_up A 29 (upd (A 29) (P.1.length) (nI (tw)))) 30) (P.1.length) (nI (tk_)))) 31 (upd ((rm_up (rm_up A 29 (upd (A 29) (P.1.length) (nI (tw)))) 30 (upd ((rm_up A 29 (upd (A 29) (P.1.length) (nI (tw)))) 30) (P.1.length) (nI (tk_)))) 31) (P.1.length) (nI (tf)))) 32 (upd ((rm_up (rm_up (rm_up A 29 (upd (A 29) (P.1.length) (nI (tw)))) 30 (upd ((rm_up A 29 (upd (A 29) (P.1.length) (nI (tw)))) 30) (P.1.length) (nI (tk_)))) 31 (upd ((rm_up (rm_up A 29 (upd (A 29) (P.1.length) (nI (tw)))) 30 (upd ((rm_up A 29 (upd (A 29) (P.1.length) (nI (tw)))) 30) (P.1.length) (nI (tk_)))) 31) (P.1.length) (nI (tf)))) 32) (P.1.length) (nI (tt)))) 33) (P.1.length) (nI (tr)))) = A1 at ha
  have hAt : tk_A rd A A1 := by
    refine ⟨fun j hj => ?_, fun i _ => ?_, fun i _ => ⟨?_, ?_⟩, fun i _ => ?_⟩ <;> rw [← hA]
    · rw [rm_up_n (by omega), rm_up_n (by omega), rm_up_n (by omega), rm_up_n (by omega), rm_up_n (by omega)]
    · rw [rm_up_n (by decide), rm_up_n (by decide), rm_up_n (by decide), rm_up_n (by decide), rm_up_n (by decide)]
    · rw [rm_up_n (by decide), rm_up_n (by decide), rm_up_n (by decide), rm_up_n (by decide), rm_up_n (by decide)]
    · rw [rm_up_n (by decide), rm_up_n (by decide), rm_up_n (by decide), rm_up_n (by decide), rm_up_n (by decide)]
    · rw [rm_up_n (by decide), rm_up_n (by decide), rm_up_n (by decide), rm_up_n (by decide), rm_up_n (by decide)]
  have hFt : tk_F F (upd F 34 (nI ((P.1.length) + (1)))) := fun j h1 h2 => pk_un h2
  have hst : st_at A1 ((tw, tk_, tf, tt, tr) :: P.1) := st_push hp.2.2.1 _ (by rw [← hA]; simp only [rm_up, if_pos, Nat.reduceEqDiff, if_false, reduceIte]) (by rw [← hA]; simp only [rm_up, if_pos, Nat.reduceEqDiff, if_false, reduceIte]) (by rw [← hA]; simp only [rm_up, if_pos, Nat.reduceEqDiff, if_false, reduceIte]) (by rw [← hA]; simp only [rm_up, if_pos, Nat.reduceEqDiff, if_false, reduceIte]) (by rw [← hA]; simp only [rm_up, if_pos, Nat.reduceEqDiff, if_false, reduceIte])
  have hou : ou_at A1 rd P.2.1 P.2.2 := by unfold ou_at; rw [← hA]; simp only [rm_up, Nat.reduceEqDiff, if_false, reduceIte]; exact hp.2.2.2
  exact mm_vret dX12_push_62 rfl (⟨rfl, _, A1, ⟨ha, cx_tk hFt hAt hx, iw_tk hAt hI, sc_tk (fun j h1 h2 => pk_un (by omega)) hs, ⟨(pk_un (by decide)).trans hp.1.1, hp.1.2⟩, pk_us, hst, hou⟩, hf, hFt, hAt⟩)
set_option maxRecDepth 100000 in
set_option maxHeartbeats 4000000 in
theorem tm_last {l : Launch} {D : va_G} {aa : Nat → ClassId} {b0 : Nat} {h : mm_H} {o : Nat} {F : Nat → Int32} {G : Nat → Int64} {A : Nat → Nat → Int32} {B : Nat → Nat → Int64} {w : ro_w} {sg g : Nat} {T I : Nat → Nat} {rd : Nat} {S : sc_S} {P : tk_P} (tk : tk_at o F G A B h w sg g T I rd S P) {i v : Nat} (hi : i < 24) : mm_V (zz_K l D aa b0) 0 yX12_last cX12_last 3 none 0 [(0, .ref (o)), (1, .int (nI (i))), (2, .int (nI (v)))] [] h 0 0 (fun r h' => r = none ∧ ∃ (F' : Nat → Int32) (A' : Nat → Nat → Int32), tk_at o F' G A' B h' w sg g T I rd S (op_l i v P) ∧ rm_fr o h h' ∧ tk_F F F' ∧ tk_A rd A A') := by
  obtain ⟨ha, hx, hI, hs, hp⟩ := tk
  have hf : rm_fr o h h := rm_fr.rf
  have hr := hp.1.2
  refine mm_aload_n dX12_last_0 rfl 0 rfl ?_
  refine rm_getA 38 dX12_last_1 ha zf_values (by decide) rfl ?_
  refine mm_bipush (v := nI 24) dX12_last_4 (by decide) ?_
  refine mm_aload_n dX12_last_6 rfl 0 rfl ?_
  refine rm_getI 41 dX12_last_7 ha zf_reading (by decide) rfl rfl ?_
  refine mn_top (u := .int (nI (rd))) (congrArg Value.int ((hp.1.1))) ?_
  refine mn_imul dX12_last_10 ?_
  refine mm_iload_n dX12_last_11 rfl 1 rfl ?_
  refine mn_iadd dX12_last_12 ?_
  refine mm_iload_n dX12_last_13 rfl 2 rfl ?_
  refine rm_iast (k := 38) dX12_last_14 ha hf rfl rfl rfl (show ((24) * (rd)) + (i) < 24000 from (by omega)) (fun h ha hf => ?_)
  generalize hA : (rm_up A 38 (upd (A 38) (((24) * (rd)) + (i)) (nI (v)))) = A1 at ha
  have hAt : tk_A rd A A1 := by
    refine ⟨fun j hj => ?_, fun i _ => ?_, fun i _ => ⟨?_, ?_⟩, fun i hi => ?_⟩ <;> rw [← hA]
    · rw [rm_up_n (by omega)]
    · rw [rm_up_n (by decide)]
    · rw [rm_up_n (by decide)]
    · rw [rm_up_n (by decide)]
    · rw [rm_up_s, pk_un (by omega)]
  have hst : st_at A1 P.1 := by unfold st_at; rw [← hA]; simp only [rm_up, Nat.reduceEqDiff, if_false, reduceIte]; exact hp.2.2.1
  have hou : ou_at A1 rd P.2.1 (rm_up P.2.2 i v) := by
    obtain ⟨o1, o2, o3, o4⟩ := hp.2.2.2
    rw [← hA]
    refine ⟨by rw [rm_up_n (by decide)]; exact o1, by rw [rm_up_n (by decide)]; exact o2, by rw [rm_up_n (by decide)]; exact o3, fun j hj => ?_⟩
    rw [rm_up_s]
    by_cases e : j = i
    · rw [e, rm_up_s, pk_us]
    · rw [rm_up_n e, pk_un (by omega)]; exact o4 j hj
  exact mm_vret dX12_last_15 rfl (⟨rfl, _, A1, ⟨ha, cx_tk tk_F.rf hAt hx, iw_tk hAt hI, hs, hp.1, hp.2.1, hst, hou⟩, hf, tk_F.rf, hAt⟩)
set_option maxRecDepth 100000 in
set_option maxHeartbeats 4000000 in
theorem tm_tell {l : Launch} {D : va_G} {aa : Nat → ClassId} {b0 : Nat} {h : mm_H} {o : Nat} {F : Nat → Int32} {G : Nat → Int64} {A : Nat → Nat → Int32} {B : Nat → Nat → Int64} {w : ro_w} {sg g : Nat} {T I : Nat → Nat} {rd : Nat} {S : sc_S} {P : tk_P} (tk : tk_at o F G A B h w sg g T I rd S P) {f : Nat} (hfl : P.2.1.length < 120) (hff : f < 100) : mm_V (zz_K l D aa b0) 0 yX12_tell cX12_tell 2 none 0 [(0, .ref (o)), (1, .int (nI (f)))] [] h 0 0 (fun r h' => r = none ∧ ∃ (F' : Nat → Int32) (A' : Nat → Nat → Int32), tk_at o F' G A' B h' w sg g T I rd S (op_t f P) ∧ rm_fr o h h' ∧ tk_F F F' ∧ tk_A rd A A') := by
  obtain ⟨ha, hx, hI, hs, hp⟩ := tk
  have hf : rm_fr o h h := rm_fr.rf
  have hr := hp.1.2
  obtain ⟨o1, o2, o3, o4⟩ := hp.2.2.2
  refine mm_aload_n dX12_tell_0 rfl 0 rfl ?_
  refine rm_getA 35 dX12_tell_1 ha zf_forms (by decide) rfl ?_
  refine mm_bipush (v := nI 120) dX12_tell_4 (by decide) ?_
  refine mm_aload_n dX12_tell_6 rfl 0 rfl ?_
  refine rm_getI 41 dX12_tell_7 ha zf_reading (by decide) rfl rfl ?_
  refine mn_top (u := .int (nI (rd))) (congrArg Value.int ((hp.1.1))) ?_
  refine mn_imul dX12_tell_10 ?_
  refine mm_aload_n dX12_tell_11 rfl 0 rfl ?_
  refine rm_getA 36 dX12_tell_12 ha zf_formMany (by decide) rfl ?_
  refine mm_aload_n dX12_tell_15 rfl 0 rfl ?_
  refine rm_getI 41 dX12_tell_16 ha zf_reading (by decide) rfl rfl ?_
  refine mn_top (u := .int (nI (rd))) (congrArg Value.int ((hp.1.1))) ?_
  refine rm_iald (k := 36) dX12_tell_19 ha rfl rfl rfl (show rd < 1001 from (by omega)) ?_
  refine mn_top (u := .int (nI (P.2.1.length))) (congrArg Value.int (o1)) ?_
  refine mn_iadd dX12_tell_20 ?_
  refine mm_iload_n dX12_tell_21 rfl 1 rfl ?_
  refine rm_iast (k := 35) dX12_tell_22 ha hf rfl rfl rfl (show ((120) * (rd)) + (P.2.1.length) < 120000 from (by omega)) (fun h ha hf => ?_)
  refine mm_aload_n dX12_tell_23 rfl 0 rfl ?_
  refine rm_getA 36 dX12_tell_24 ha zf_formMany (by decide) rfl ?_
  refine mm_aload_n dX12_tell_27 rfl 0 rfl ?_
  refine rm_getI 41 dX12_tell_28 ha zf_reading (by decide) rfl rfl ?_
  refine mn_top (u := .int (nI (rd))) (congrArg Value.int ((hp.1.1))) ?_
  refine mm_dup2 dX12_tell_31 rfl rfl ?_
  refine rm_iald (k := 36) dX12_tell_32 ha rfl rfl rfl (show rd < 1001 from (by omega)) ?_
  refine mn_top (u := .int (nI (P.2.1.length))) (congrArg Value.int (by rw [show (rm_up A 35 (upd (A 35) (((120) * (rd)) + (P.2.1.length)) (nI (f)))) 36 = A 36 from rm_up_n (by decide)]; exact o1)) ?_
  refine mm_iconst (v := nI 1) dX12_tell_33 (by decide) ?_
  refine mn_iadd dX12_tell_34 ?_
  refine rm_iast (k := 36) dX12_tell_35 ha hf rfl rfl rfl (show rd < 1001 from (by omega)) (fun h ha hf => ?_)
  refine mm_aload_n dX12_tell_36 rfl 0 rfl ?_
  refine rm_getA 37 dX12_tell_37 ha zf_strain (by decide) rfl ?_
  refine mm_aload_n dX12_tell_40 rfl 0 rfl ?_
  refine rm_getI 41 dX12_tell_41 ha zf_reading (by decide) rfl rfl ?_
  refine mn_top (u := .int (nI (rd))) (congrArg Value.int ((hp.1.1))) ?_
  refine mm_dup2 dX12_tell_44 rfl rfl ?_
  refine rm_iald (k := 37) dX12_tell_45 ha rfl rfl rfl (show rd < 1001 from (by omega)) ?_
  refine mn_top (u := .int (nI (sn_ P.2.1))) (congrArg Value.int (by rw [show (rm_up (rm_up A 35 (upd (A 35) (((120) * (rd)) + (P.2.1.length)) (nI (f)))) 36 (upd ((rm_up A 35 (upd (A 35) (((120) * (rd)) + (P.2.1.length)) (nI (f)))) 36) (rd) (nI ((P.2.1.length) + (1))))) 37 = A 37 from by simp only [rm_up, Nat.reduceEqDiff, if_false, reduceIte]]; exact o2)) ?_
  refine mm_iload_n dX12_tell_46 rfl 1 rfl ?_
  refine mm_bipush (v := nI 7) dX12_tell_47 (by decide) ?_
  refine mn_icmp_eq (tgt := 58) dX12_tell_49 (by decide) (by omega) (by omega) (fun c49 => ?_) (fun c49 => ?_)
  · refine mm_iconst (v := nI 1) dX12_tell_58 (by decide) ?_
    refine mm_goto (tgt := 83) dX12_tell_59 (by decide) ?_
    refine mn_iadd dX12_tell_83 ?_
    refine rm_iast (k := 37) dX12_tell_84 ha hf rfl rfl rfl (show rd < 1001 from (by omega)) (fun h ha hf => ?_)
    have hw : wt_ f = 1 := by unfold wt_; simp_all <;> omega
    generalize hA : (rm_up (rm_up (rm_up A 35 (upd (A 35) (((120) * (rd)) + (P.2.1.length)) (nI (f)))) 36 (upd ((rm_up A 35 (upd (A 35) (((120) * (rd)) + (P.2.1.length)) (nI (f)))) 36) (rd) (nI ((P.2.1.length) + (1))))) 37 (upd ((rm_up (rm_up A 35 (upd (A 35) (((120) * (rd)) + (P.2.1.length)) (nI (f)))) 36 (upd ((rm_up A 35 (upd (A 35) (((120) * (rd)) + (P.2.1.length)) (nI (f)))) 36) (rd) (nI ((P.2.1.length) + (1))))) 37) (rd) (nI ((sn_ P.2.1) + (1))))) = A1 at ha
    have hAt : tk_A rd A A1 := by
      refine ⟨fun j hj => ?_, fun i hi => ?_, fun i hi => ⟨?_, ?_⟩, fun i _ => ?_⟩ <;> rw [← hA]
      · rw [rm_up_n (by omega), rm_up_n (by omega), rm_up_n (by omega)]
      · rw [rm_up_n (by decide), rm_up_n (by decide), rm_up_s, pk_un (by omega)]
      · rw [rm_up_n (by decide), rm_up_s, pk_un hi, rm_up_n (by decide)]
      · rw [rm_up_s, pk_un hi, rm_up_n (by decide), rm_up_n (by decide)]
      · rw [rm_up_n (by decide), rm_up_n (by decide), rm_up_n (by decide)]
    have hst : st_at A1 P.1 := by unfold st_at; rw [← hA]; simp only [rm_up, Nat.reduceEqDiff, if_false, reduceIte]; exact hp.2.2.1
    have hou : ou_at A1 rd (P.2.1 ++ [f]) P.2.2 := by
      rw [← hA]
      refine ⟨?_, ?_, fun i x hx => ?_, ?_⟩
      · rw [rm_up_n (by decide), rm_up_s, pk_us, List.length_append]; rfl
      · rw [rm_up_s, pk_us, sn_app, hw]
      · rw [rm_up_n (by decide), rm_up_n (by decide), rm_up_s]
        by_cases hi : i < P.2.1.length
        · rw [List.getElem?_append_left hi] at hx; rw [pk_un (by omega)]; exact o3 i x hx
        · have hl := (List.getElem?_eq_some_iff.mp hx).1
          rw [List.length_append] at hl
          have e : i = P.2.1.length := by simp at hl; omega
          subst e
          rw [List.getElem?_append_right (Nat.le_refl _), Nat.sub_self] at hx
          cases hx
          rw [pk_us]
      · rw [rm_up_n (by decide), rm_up_n (by decide), rm_up_n (by decide)]; exact o4
    exact mm_vret dX12_tell_85 rfl (⟨rfl, _, A1, ⟨ha, cx_tk tk_F.rf hAt hx, iw_tk hAt hI, hs, hp.1, hp.2.1, hst, hou⟩, hf, tk_F.rf, hAt⟩)
  · refine mm_iload_n dX12_tell_52 rfl 1 rfl ?_
    refine mm_bipush (v := nI 12) dX12_tell_53 (by decide) ?_
    refine mn_icmp_ne (tgt := 62) dX12_tell_55 (by decide) (by omega) (by omega) (fun c55 => ?_) (fun c55 => ?_)
    · refine mm_iload_n dX12_tell_62 rfl 1 rfl ?_
      refine mm_bipush (v := nI 8) dX12_tell_63 (by decide) ?_
      refine mn_icmp_ne (tgt := 72) dX12_tell_65 (by decide) (by omega) (by omega) (fun c65 => ?_) (fun c65 => ?_)
      · refine mm_iload_n dX12_tell_72 rfl 1 rfl ?_
        refine mm_bipush (v := nI 9) dX12_tell_73 (by decide) ?_
        refine mn_icmp_ne (tgt := 82) dX12_tell_75 (by decide) (by omega) (by omega) (fun c75 => ?_) (fun c75 => ?_)
        · refine mm_iconst (v := nI 0) dX12_tell_82 (by decide) ?_
          refine mn_iadd dX12_tell_83 ?_
          refine rm_iast (k := 37) dX12_tell_84 ha hf rfl rfl rfl (show rd < 1001 from (by omega)) (fun h ha hf => ?_)
          have hw : wt_ f = 0 := by unfold wt_; simp_all <;> omega
          generalize hA : (rm_up (rm_up (rm_up A 35 (upd (A 35) (((120) * (rd)) + (P.2.1.length)) (nI (f)))) 36 (upd ((rm_up A 35 (upd (A 35) (((120) * (rd)) + (P.2.1.length)) (nI (f)))) 36) (rd) (nI ((P.2.1.length) + (1))))) 37 (upd ((rm_up (rm_up A 35 (upd (A 35) (((120) * (rd)) + (P.2.1.length)) (nI (f)))) 36 (upd ((rm_up A 35 (upd (A 35) (((120) * (rd)) + (P.2.1.length)) (nI (f)))) 36) (rd) (nI ((P.2.1.length) + (1))))) 37) (rd) (nI ((sn_ P.2.1) + (0))))) = A1 at ha
          have hAt : tk_A rd A A1 := by
            refine ⟨fun j hj => ?_, fun i hi => ?_, fun i hi => ⟨?_, ?_⟩, fun i _ => ?_⟩ <;> rw [← hA]
            · rw [rm_up_n (by omega), rm_up_n (by omega), rm_up_n (by omega)]
            · rw [rm_up_n (by decide), rm_up_n (by decide), rm_up_s, pk_un (by omega)]
            · rw [rm_up_n (by decide), rm_up_s, pk_un hi, rm_up_n (by decide)]
            · rw [rm_up_s, pk_un hi, rm_up_n (by decide), rm_up_n (by decide)]
            · rw [rm_up_n (by decide), rm_up_n (by decide), rm_up_n (by decide)]
          have hst : st_at A1 P.1 := by unfold st_at; rw [← hA]; simp only [rm_up, Nat.reduceEqDiff, if_false, reduceIte]; exact hp.2.2.1
          have hou : ou_at A1 rd (P.2.1 ++ [f]) P.2.2 := by
            rw [← hA]
            refine ⟨?_, ?_, fun i x hx => ?_, ?_⟩
            · rw [rm_up_n (by decide), rm_up_s, pk_us, List.length_append]; rfl
            · rw [rm_up_s, pk_us, sn_app, hw]
            · rw [rm_up_n (by decide), rm_up_n (by decide), rm_up_s]
              by_cases hi : i < P.2.1.length
              · rw [List.getElem?_append_left hi] at hx; rw [pk_un (by omega)]; exact o3 i x hx
              · have hl := (List.getElem?_eq_some_iff.mp hx).1
                rw [List.length_append] at hl
                have e : i = P.2.1.length := by simp at hl; omega
                subst e
                rw [List.getElem?_append_right (Nat.le_refl _), Nat.sub_self] at hx
                cases hx
                rw [pk_us]
            · rw [rm_up_n (by decide), rm_up_n (by decide), rm_up_n (by decide)]; exact o4
          exact mm_vret dX12_tell_85 rfl (⟨rfl, _, A1, ⟨ha, cx_tk tk_F.rf hAt hx, iw_tk hAt hI, hs, hp.1, hp.2.1, hst, hou⟩, hf, tk_F.rf, hAt⟩)
        · refine mm_iconst (v := nI 3) dX12_tell_78 (by decide) ?_
          refine mm_goto (tgt := 83) dX12_tell_79 (by decide) ?_
          refine mn_iadd dX12_tell_83 ?_
          refine rm_iast (k := 37) dX12_tell_84 ha hf rfl rfl rfl (show rd < 1001 from (by omega)) (fun h ha hf => ?_)
          have hw : wt_ f = 3 := by unfold wt_; simp_all <;> omega
          generalize hA : (rm_up (rm_up (rm_up A 35 (upd (A 35) (((120) * (rd)) + (P.2.1.length)) (nI (f)))) 36 (upd ((rm_up A 35 (upd (A 35) (((120) * (rd)) + (P.2.1.length)) (nI (f)))) 36) (rd) (nI ((P.2.1.length) + (1))))) 37 (upd ((rm_up (rm_up A 35 (upd (A 35) (((120) * (rd)) + (P.2.1.length)) (nI (f)))) 36 (upd ((rm_up A 35 (upd (A 35) (((120) * (rd)) + (P.2.1.length)) (nI (f)))) 36) (rd) (nI ((P.2.1.length) + (1))))) 37) (rd) (nI ((sn_ P.2.1) + (3))))) = A1 at ha
          have hAt : tk_A rd A A1 := by
            refine ⟨fun j hj => ?_, fun i hi => ?_, fun i hi => ⟨?_, ?_⟩, fun i _ => ?_⟩ <;> rw [← hA]
            · rw [rm_up_n (by omega), rm_up_n (by omega), rm_up_n (by omega)]
            · rw [rm_up_n (by decide), rm_up_n (by decide), rm_up_s, pk_un (by omega)]
            · rw [rm_up_n (by decide), rm_up_s, pk_un hi, rm_up_n (by decide)]
            · rw [rm_up_s, pk_un hi, rm_up_n (by decide), rm_up_n (by decide)]
            · rw [rm_up_n (by decide), rm_up_n (by decide), rm_up_n (by decide)]
          have hst : st_at A1 P.1 := by unfold st_at; rw [← hA]; simp only [rm_up, Nat.reduceEqDiff, if_false, reduceIte]; exact hp.2.2.1
          have hou : ou_at A1 rd (P.2.1 ++ [f]) P.2.2 := by
            rw [← hA]
            refine ⟨?_, ?_, fun i x hx => ?_, ?_⟩
            · rw [rm_up_n (by decide), rm_up_s, pk_us, List.length_append]; rfl
            · rw [rm_up_s, pk_us, sn_app, hw]
            · rw [rm_up_n (by decide), rm_up_n (by decide), rm_up_s]
              by_cases hi : i < P.2.1.length
              · rw [List.getElem?_append_left hi] at hx; rw [pk_un (by omega)]; exact o3 i x hx
              · have hl := (List.getElem?_eq_some_iff.mp hx).1
                rw [List.length_append] at hl
                have e : i = P.2.1.length := by simp at hl; omega
                subst e
                rw [List.getElem?_append_right (Nat.le_refl _), Nat.sub_self] at hx
                cases hx
                rw [pk_us]
            · rw [rm_up_n (by decide), rm_up_n (by decide), rm_up_n (by decide)]; exact o4
          exact mm_vret dX12_tell_85 rfl (⟨rfl, _, A1, ⟨ha, cx_tk tk_F.rf hAt hx, iw_tk hAt hI, hs, hp.1, hp.2.1, hst, hou⟩, hf, tk_F.rf, hAt⟩)
      · refine mm_iconst (v := nI 2) dX12_tell_68 (by decide) ?_
        refine mm_goto (tgt := 83) dX12_tell_69 (by decide) ?_
        refine mn_iadd dX12_tell_83 ?_
        refine rm_iast (k := 37) dX12_tell_84 ha hf rfl rfl rfl (show rd < 1001 from (by omega)) (fun h ha hf => ?_)
        have hw : wt_ f = 2 := by unfold wt_; simp_all <;> omega
        generalize hA : (rm_up (rm_up (rm_up A 35 (upd (A 35) (((120) * (rd)) + (P.2.1.length)) (nI (f)))) 36 (upd ((rm_up A 35 (upd (A 35) (((120) * (rd)) + (P.2.1.length)) (nI (f)))) 36) (rd) (nI ((P.2.1.length) + (1))))) 37 (upd ((rm_up (rm_up A 35 (upd (A 35) (((120) * (rd)) + (P.2.1.length)) (nI (f)))) 36 (upd ((rm_up A 35 (upd (A 35) (((120) * (rd)) + (P.2.1.length)) (nI (f)))) 36) (rd) (nI ((P.2.1.length) + (1))))) 37) (rd) (nI ((sn_ P.2.1) + (2))))) = A1 at ha
        have hAt : tk_A rd A A1 := by
          refine ⟨fun j hj => ?_, fun i hi => ?_, fun i hi => ⟨?_, ?_⟩, fun i _ => ?_⟩ <;> rw [← hA]
          · rw [rm_up_n (by omega), rm_up_n (by omega), rm_up_n (by omega)]
          · rw [rm_up_n (by decide), rm_up_n (by decide), rm_up_s, pk_un (by omega)]
          · rw [rm_up_n (by decide), rm_up_s, pk_un hi, rm_up_n (by decide)]
          · rw [rm_up_s, pk_un hi, rm_up_n (by decide), rm_up_n (by decide)]
          · rw [rm_up_n (by decide), rm_up_n (by decide), rm_up_n (by decide)]
        have hst : st_at A1 P.1 := by unfold st_at; rw [← hA]; simp only [rm_up, Nat.reduceEqDiff, if_false, reduceIte]; exact hp.2.2.1
        have hou : ou_at A1 rd (P.2.1 ++ [f]) P.2.2 := by
          rw [← hA]
          refine ⟨?_, ?_, fun i x hx => ?_, ?_⟩
          · rw [rm_up_n (by decide), rm_up_s, pk_us, List.length_append]; rfl
          · rw [rm_up_s, pk_us, sn_app, hw]
          · rw [rm_up_n (by decide), rm_up_n (by decide), rm_up_s]
            by_cases hi : i < P.2.1.length
            · rw [List.getElem?_append_left hi] at hx; rw [pk_un (by omega)]; exact o3 i x hx
            · have hl := (List.getElem?_eq_some_iff.mp hx).1
              rw [List.length_append] at hl
              have e : i = P.2.1.length := by simp at hl; omega
              subst e
              rw [List.getElem?_append_right (Nat.le_refl _), Nat.sub_self] at hx
              cases hx
              rw [pk_us]
          · rw [rm_up_n (by decide), rm_up_n (by decide), rm_up_n (by decide)]; exact o4
        exact mm_vret dX12_tell_85 rfl (⟨rfl, _, A1, ⟨ha, cx_tk tk_F.rf hAt hx, iw_tk hAt hI, hs, hp.1, hp.2.1, hst, hou⟩, hf, tk_F.rf, hAt⟩)
    · refine mm_iconst (v := nI 1) dX12_tell_58 (by decide) ?_
      refine mm_goto (tgt := 83) dX12_tell_59 (by decide) ?_
      refine mn_iadd dX12_tell_83 ?_
      refine rm_iast (k := 37) dX12_tell_84 ha hf rfl rfl rfl (show rd < 1001 from (by omega)) (fun h ha hf => ?_)
      have hw : wt_ f = 1 := by unfold wt_; simp_all <;> omega
      generalize hA : (rm_up (rm_up (rm_up A 35 (upd (A 35) (((120) * (rd)) + (P.2.1.length)) (nI (f)))) 36 (upd ((rm_up A 35 (upd (A 35) (((120) * (rd)) + (P.2.1.length)) (nI (f)))) 36) (rd) (nI ((P.2.1.length) + (1))))) 37 (upd ((rm_up (rm_up A 35 (upd (A 35) (((120) * (rd)) + (P.2.1.length)) (nI (f)))) 36 (upd ((rm_up A 35 (upd (A 35) (((120) * (rd)) + (P.2.1.length)) (nI (f)))) 36) (rd) (nI ((P.2.1.length) + (1))))) 37) (rd) (nI ((sn_ P.2.1) + (1))))) = A1 at ha
      have hAt : tk_A rd A A1 := by
        refine ⟨fun j hj => ?_, fun i hi => ?_, fun i hi => ⟨?_, ?_⟩, fun i _ => ?_⟩ <;> rw [← hA]
        · rw [rm_up_n (by omega), rm_up_n (by omega), rm_up_n (by omega)]
        · rw [rm_up_n (by decide), rm_up_n (by decide), rm_up_s, pk_un (by omega)]
        · rw [rm_up_n (by decide), rm_up_s, pk_un hi, rm_up_n (by decide)]
        · rw [rm_up_s, pk_un hi, rm_up_n (by decide), rm_up_n (by decide)]
        · rw [rm_up_n (by decide), rm_up_n (by decide), rm_up_n (by decide)]
      have hst : st_at A1 P.1 := by unfold st_at; rw [← hA]; simp only [rm_up, Nat.reduceEqDiff, if_false, reduceIte]; exact hp.2.2.1
      have hou : ou_at A1 rd (P.2.1 ++ [f]) P.2.2 := by
        rw [← hA]
        refine ⟨?_, ?_, fun i x hx => ?_, ?_⟩
        · rw [rm_up_n (by decide), rm_up_s, pk_us, List.length_append]; rfl
        · rw [rm_up_s, pk_us, sn_app, hw]
        · rw [rm_up_n (by decide), rm_up_n (by decide), rm_up_s]
          by_cases hi : i < P.2.1.length
          · rw [List.getElem?_append_left hi] at hx; rw [pk_un (by omega)]; exact o3 i x hx
          · have hl := (List.getElem?_eq_some_iff.mp hx).1
            rw [List.length_append] at hl
            have e : i = P.2.1.length := by simp at hl; omega
            subst e
            rw [List.getElem?_append_right (Nat.le_refl _), Nat.sub_self] at hx
            cases hx
            rw [pk_us]
        · rw [rm_up_n (by decide), rm_up_n (by decide), rm_up_n (by decide)]; exact o4
      exact mm_vret dX12_tell_85 rfl (⟨rfl, _, A1, ⟨ha, cx_tk tk_F.rf hAt hx, iw_tk hAt hI, hs, hp.1, hp.2.1, hst, hou⟩, hf, tk_F.rf, hAt⟩)
