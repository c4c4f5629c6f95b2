/-! the reference: where a row sticks -/
theorem stk_nz {n : Nat} (h : n ≠ 0) : ¬ (if 1000 < n then (-4) else nI n) = 0 := by
  split
  · decide
  · intro e
    have := congrArg Int32.toInt e
    rw [nI_toInt (by omega)] at this
    have e0 : (0 : Int32).toInt = 0 := by decide
    omega
set_option maxRecDepth 100000 in
set_option maxHeartbeats 4000000 in
theorem tM_stuckS {l : Launch} {D : va_G} {aa : Nat → ClassId} {b0 : Nat} {h : mm_H} {o : Nat} {F : Nat → Int32} {G : Nat → Int64} {A : Nat → Nat → Int32} {B : Nat → Nat → Int64} {s : aS} {n : Nat} (ha : rm_at o F G A B h) (hW : WF s) (hI : RI s F A B) (hn : n < aNv s) (hz : (aR s n).length ≠ 0) : mm_V (zz_K l D aa b0) 9 yX12_stuck cX12_stuck 5 (some .int) 0 [(0, .ref (o)), (1, .int (nI (n)))] [] h 0 0 (fun r h' => (∀ u, fu_ (aW s n) (aSg s n) u → r = some (.int (if u = aSz s n then (-1) else nI u))) ∧ ∃ (F' : Nat → Int32) (A' : Nat → Nat → Int32), rm_at o F' G A' B h' ∧ rm_fr o h h' ∧ RI (s) F' A' B) := by
  have hf : rm_fr o h h := rm_fr.rf
  have hn6 : n < 6 := by have := hW.1.1; omega
  have hvok := hW.2.1 n hn6
  have hsz24 : aSz s n ≤ 24 := hvok.1.2
  obtain ⟨⟨v1, w1⟩, ⟨v2, w2⟩, ⟨v3, w3⟩, ⟨v4, w4⟩, v5, w5⟩ := hI.1.2 n hn6
  have hrk := vok_rk hvok
  refine mm_aload_n dX12_stuck_0 rfl 0 rfl ?_
  refine mm_iload_n dX12_stuck_1 rfl 1 rfl ?_
  refine rm_callVr (As := [.int (nI (n))]) (rest := []) (d2 := 1) dX12_stuck_2 ha zc_isVoice zc_isVoice_s rfl rfl rfl (Nat.le_of_ble_eq_true rfl) (Nat.le_of_ble_eq_true rfl) (by decide) (tM_isVoice ha hW hI (nI_inb hn (by have := hW.1.1; omega))) ?_
  refine mn_ifB_ne (tgt := 11) dX12_stuck_5 (by decide) (fun c5 => ?_) (fun c5 => ?_)
  · refine mm_aload_n dX12_stuck_11 rfl 0 rfl ?_
    refine mm_iload_n dX12_stuck_12 rfl 1 rfl ?_
    refine rm_callV (As := [.int (nI (n))]) (rest := []) (d2 := 8) dX12_stuck_13 ha zc_read zc_read_s rfl rfl rfl (Nat.le_of_ble_eq_true rfl) (Nat.le_of_ble_eq_true rfl) (by decide) (tM_read ha hW hI hn) (fun r h1 hq => ?_)
    obtain ⟨rfl, F1, A1, N, ha, hf', hI1, hrc, h42⟩ := hq
    have hf := hf.tr hf'
    obtain ⟨T, I, htc, hcx, -⟩ := hrc
    refine mm_if_eq (tgt := 21) dX12_stuck_16 (by decide) (fun c16 => ?_) (fun c16 => ?_)
    · exact absurd c16 (stk_nz hz)
    · refine mm_iconst (v := (-1)) dX12_stuck_19 (by decide) ?_
      exact mm_iret dX12_stuck_20 rfl (⟨fun u hu => by rw [if_pos (show u = aSz s n from (stk_u htc hrk hu).2.mpr hz)], F1, A1, ha, hf, hI1⟩)
  · cases c5
set_option maxRecDepth 100000 in
set_option maxHeartbeats 4000000 in
theorem tM_stuckZ {l : Launch} {D : va_G} {aa : Nat → ClassId} {b0 : Nat} {h : mm_H} {o : Nat} {F : Nat → Int32} {G : Nat → Int64} {A : Nat → Nat → Int32} {B : Nat → Nat → Int64} {s : aS} {n : Nat} (ha : rm_at o F G A B h) (hW : WF s) (hI : RI s F A B) (hn : n < aNv s) (hz : (aR s n).length = 0) : mm_V (zz_K l D aa b0) 9 yX12_stuck cX12_stuck 5 (some .int) 0 [(0, .ref (o)), (1, .int (nI (n)))] [] h 0 0 (fun r h' => (∀ u, fu_ (aW s n) (aSg s n) u → r = some (.int (if u = aSz s n then (-1) else nI u))) ∧ ∃ (F' : Nat → Int32) (A' : Nat → Nat → Int32), rm_at o F' G A' B h' ∧ rm_fr o h h' ∧ RI (s) F' A' B) := by
  have hf : rm_fr o h h := rm_fr.rf
  have hn6 : n < 6 := by have := hW.1.1; omega
  have hvok := hW.2.1 n hn6
  have hsz24 : aSz s n ≤ 24 := hvok.1.2
  obtain ⟨⟨v1, w1⟩, ⟨v2, w2⟩, ⟨v3, w3⟩, ⟨v4, w4⟩, v5, w5⟩ := hI.1.2 n hn6
  have hrk := vok_rk hvok
  refine mm_aload_n dX12_stuck_0 rfl 0 rfl ?_
  refine mm_iload_n dX12_stuck_1 rfl 1 rfl ?_
  refine rm_callVr (As := [.int (nI (n))]) (rest := []) (d2 := 1) dX12_stuck_2 ha zc_isVoice zc_isVoice_s rfl rfl rfl (Nat.le_of_ble_eq_true rfl) (Nat.le_of_ble_eq_true rfl) (by decide) (tM_isVoice ha hW hI (nI_inb hn (by have := hW.1.1; omega))) ?_
  refine mn_ifB_ne (tgt := 11) dX12_stuck_5 (by decide) (fun c5 => ?_) (fun c5 => ?_)
  · refine mm_aload_n dX12_stuck_11 rfl 0 rfl ?_
    refine mm_iload_n dX12_stuck_12 rfl 1 rfl ?_
    refine rm_callV (As := [.int (nI (n))]) (rest := []) (d2 := 8) dX12_stuck_13 ha zc_read zc_read_s rfl rfl rfl (Nat.le_of_ble_eq_true rfl) (Nat.le_of_ble_eq_true rfl) (by decide) (tM_read ha hW hI hn) (fun r h1 hq => ?_)
    obtain ⟨rfl, F1, A1, N, ha, hf', hI1, hrc, h42⟩ := hq
    have hf := hf.tr hf'
    obtain ⟨T, I, htc, hcx, -⟩ := hrc
    rw [hz, if_neg (show ¬ 1000 < 0 by decide)]
    refine mn_if_eq (tgt := 21) dX12_stuck_16 (by decide) (by omega) (fun c16 => ?_) (fun c16 => ?_)
    · refine mm_iconst (v := nI 0) dX12_stuck_21 (by decide) ?_
      refine mm_istore_n (L' := [(2, .int (nI (0))), (0, .ref (o)), (1, .int (nI (n)))]) dX12_stuck_22 rfl (by decide) rfl ?_
      refine mm_aload_n dX12_stuck_23 rfl 1 rfl ?_
      refine rm_getA 43 dX12_stuck_24 ha zf_reached (by decide) rfl ?_
      refine mm_iconst (v := nI 0) dX12_stuck_27 (by decide) ?_
      refine mm_iconst (v := nI 1) dX12_stuck_28 (by decide) ?_
      refine rm_zast (k := 43) dX12_stuck_29 ha hf rfl rfl rfl (show 0 < 25 from (by decide)) (by decide) (fun h1 ha hf => ?_)
      refine mm_iconst (v := nI 1) dX12_stuck_30 (by decide) ?_
      refine mm_istore_n (L' := [(3, .int (nI (1))), (2, .int (nI (0))), (0, .ref (o)), (1, .int (nI (n)))]) dX12_stuck_31 rfl (by decide) rfl ?_
      obtain ⟨cf, hcf⟩ : ∃ cf : Nat → Nat → Bool, cf = (fun a b => decide (0 < ct_it (aW s n) (gd_ (aSg s n)) T a b)) := ⟨_, rfl⟩
      have hF15 : F1 15 = nI (aSz s n) := hcx.1.2.1
      refine mn_sub [2, 1, 0] rfl ?_
      suffices lp : ∀ (c t : Nat) (A2 : Nat → Nat → Int32) (h2 : mm_H), t + c = aSz s n → (∀ i, i ≤ t → A2 43 i = nI (Bool.toNat (sRw cf t i))) → (∀ j, j ≠ 43 → A2 j = A1 j) → rm_at o F1 G A2 B h2 → rm_fr o h h2 → mm_V (zz_K l D aa b0) 9 yX12_stuck cX12_stuck 5 (some .int) 32 [(0, .ref (o)), (2, .int (nI (sMo cf t))), (3, .int (nI (t + 1)))] [] h2 0 0 (fun r h' => (∀ u, fu_ (aW s n) (aSg s n) u → r = some (.int (if u = aSz s n then (-1) else nI u))) ∧ ∃ (F' : Nat → Int32) (A' : Nat → Nat → Int32), rm_at o F' G A' B h' ∧ rm_fr o h h' ∧ RI (s) F' A' B) from lp (aSz s n) 0 _ _ (by omega) (fun i hi => by rw [rm_up_s, show i = 0 by omega, pk_us]; rfl) (fun j hj => rm_up_n hj) ha hf
      intro c
      induction c with
      | zero =>
        intro t A2 h2 htc2 hre hA2 ha hf
        refine mm_iload_n dX12_stuck_32 rfl 2 rfl ?_
        refine mm_aload_n dX12_stuck_33 rfl 0 rfl ?_
        refine rm_getI 15 dX12_stuck_34 ha zf_size (by decide) rfl rfl ?_
        refine mn_top (u := .int (nI (aSz s n))) (congrArg Value.int ((hF15))) ?_
        refine mn_icmp_gt (tgt := 123) dX12_stuck_37 (by decide) (by omega) (by omega) (fun c37 => ?_) (fun c37 => ?_)
        · refine mm_iload_n dX12_stuck_123 rfl 1 rfl ?_
          have ht : t = aSz s n := by omega
          exact mm_iret dX12_stuck_124 rfl (⟨fun u hu => by have h1 := stk_u htc hrk hu; rw [← hcf] at h1; rw [if_neg (show ¬ u = aSz s n from fun e => h1.2.mp e hz), h1.1, ht]; rfl, F1, A2, ha, hf, RI_sc hI1 (fun _ _ _ _ => rfl) hA2 (fun _ => rfl)⟩)
        · omega
      | succ c ih =>
        intro t A2 h2 htc2 hre hA2 ha hf
        refine mm_iload_n dX12_stuck_32 rfl 2 rfl ?_
        refine mm_aload_n dX12_stuck_33 rfl 0 rfl ?_
        refine rm_getI 15 dX12_stuck_34 ha zf_size (by decide) rfl rfl ?_
        refine mn_top (u := .int (nI (aSz s n))) (congrArg Value.int ((hF15))) ?_
        refine mn_icmp_gt (tgt := 123) dX12_stuck_37 (by decide) (by omega) (by omega) (fun c37 => ?_) (fun c37 => ?_)
        · omega
        · refine mm_aload_n dX12_stuck_40 rfl 0 rfl ?_
          refine rm_getA 43 dX12_stuck_41 ha zf_reached (by decide) rfl ?_
          refine mm_iload_n dX12_stuck_44 rfl 2 rfl ?_
          refine mm_iconst (v := nI 0) dX12_stuck_45 (by decide) ?_
          refine rm_zast (k := 43) dX12_stuck_46 ha hf rfl rfl rfl (show t + 1 < 25 from (by omega)) (by decide) (fun h2 ha hf => ?_)
          refine mm_iconst (v := nI 0) dX12_stuck_47 (by decide) ?_
          refine mm_istore (L' := [(4, .int (nI (0))), (0, .ref (o)), (2, .int (nI (sMo cf t))), (3, .int (nI (t + 1)))]) dX12_stuck_48 (by decide) rfl ?_
          refine mn_sub [1, 2, 3, 0] rfl ?_
          suffices lq : ∀ (d f : Nat) (A3 : Nat → Nat → Int32) (h3 : mm_H), f + d = t + 1 → (∀ i, i ≤ t → A3 43 i = nI (Bool.toNat (sRw cf t i))) → A3 43 (t + 1) = nI (Bool.toNat ((List.range f).any (fun q => sRw cf t q && cf q (t + 1)))) → (∀ j, j ≠ 43 → A3 j = A1 j) → rm_at o F1 G A3 B h3 → rm_fr o h h3 → mm_V (zz_K l D aa b0) 9 yX12_stuck cX12_stuck 5 (some .int) 50 [(0, .ref (o)), (2, .int (nI (sMo cf t))), (3, .int (nI (t + 1))), (4, .int (nI (f)))] [] h3 0 0 (fun r h' => (∀ u, fu_ (aW s n) (aSg s n) u → r = some (.int (if u = aSz s n then (-1) else nI u))) ∧ ∃ (F' : Nat → Int32) (A' : Nat → Nat → Int32), rm_at o F' G A' B h' ∧ rm_fr o h h' ∧ RI (s) F' A' B) from lq (t + 1) 0 _ _ (by omega) (fun i hi => by rw [rm_up_s, pk_un (by omega)]; exact hre i hi) (by rw [rm_up_s, pk_us]; rfl) (fun j hj => (rm_up_n hj).trans (hA2 j hj)) ha hf
          intro d
          induction d with
          | zero =>
            intro f A3 h3 hfd hr3 hto hA3 ha hf
            refine mm_iload dX12_stuck_50 3 rfl ?_
            refine mm_iload_n dX12_stuck_52 rfl 2 rfl ?_
            refine mn_icmp_ge (tgt := 102) dX12_stuck_53 (by decide) (by omega) (by omega) (fun c53 => ?_) (fun c53 => ?_)
            · have hfe : f = t + 1 := by omega
              have hst : sRw cf (t + 1) (t + 1) = (List.range (t + 1)).any (fun q => sRw cf t q && cf q (t + 1)) := if_pos rfl
              rw [hfe, ← hst] at hto
              have hre2 : ∀ i, i ≤ t + 1 → A3 43 i = nI (Bool.toNat (sRw cf (t + 1) i)) := fun i hi => by
                by_cases e : i = t + 1
                · rw [e]; exact hto
                · rw [show sRw cf (t + 1) i = sRw cf t i from if_neg e]; exact hr3 i (by omega)
              refine mm_aload_n dX12_stuck_102 rfl 0 rfl ?_
              refine rm_getA 43 dX12_stuck_103 ha zf_reached (by decide) rfl ?_
              refine mm_iload_n dX12_stuck_106 rfl 2 rfl ?_
              refine rm_zald (k := 43) dX12_stuck_107 ha rfl rfl rfl (show t + 1 < 25 from (by omega)) ?_
              refine mn_top (u := .int (nI (Bool.toNat (sRw cf (t + 1) (t + 1))))) (congrArg Value.int (hto)) ?_
              refine mn_ifB_eq (tgt := 115) dX12_stuck_108 (by decide) (fun c108 => ?_) (fun c108 => ?_)
              · refine mm_iload_n dX12_stuck_115 rfl 1 rfl ?_
                refine mn_top (u := .int (nI (sMo cf (t + 1)))) (congrArg Value.int (congrArg nI (show _ = sMo cf (t + 1) from (if_neg (by rw [c108]; decide)).symm))) ?_
                refine mm_istore_n (L' := [(2, .int (nI (sMo cf (t + 1)))), (0, .ref (o)), (3, .int (nI (t + 1))), (4, .int (nI (f)))]) dX12_stuck_116 rfl (by decide) rfl ?_
                refine mn_iinc (m := 1) (L' := [(3, .int (nI (t + 1 + 1))), (2, .int (nI (sMo cf (t + 1)))), (0, .ref (o)), (4, .int (nI (f)))]) dX12_stuck_117 (by decide) 2 rfl (by decide) rfl ?_
                refine mm_goto (tgt := 32) dX12_stuck_120 (by decide) ?_
                refine mn_sub [2, 1, 0] rfl ?_
                exact ih (t + 1) A3 _ (by omega) hre2 hA3 ha hf
              · refine mm_iload_n dX12_stuck_111 rfl 2 rfl ?_
                refine mm_goto (tgt := 116) dX12_stuck_112 (by decide) ?_
                refine mn_top (u := .int (nI (sMo cf (t + 1)))) (congrArg Value.int (congrArg nI (show _ = sMo cf (t + 1) from (if_pos c108).symm))) ?_
                refine mm_istore_n (L' := [(2, .int (nI (sMo cf (t + 1)))), (0, .ref (o)), (3, .int (nI (t + 1))), (4, .int (nI (f)))]) dX12_stuck_116 rfl (by decide) rfl ?_
                refine mn_iinc (m := 1) (L' := [(3, .int (nI (t + 1 + 1))), (2, .int (nI (sMo cf (t + 1)))), (0, .ref (o)), (4, .int (nI (f)))]) dX12_stuck_117 (by decide) 2 rfl (by decide) rfl ?_
                refine mm_goto (tgt := 32) dX12_stuck_120 (by decide) ?_
                refine mn_sub [2, 1, 0] rfl ?_
                exact ih (t + 1) A3 _ (by omega) hre2 hA3 ha hf
            · omega
          | succ d iq =>
            intro f A3 h3 hfd hr3 hto hA3 ha hf
            refine mm_iload dX12_stuck_50 3 rfl ?_
            refine mm_iload_n dX12_stuck_52 rfl 2 rfl ?_
            refine mn_icmp_ge (tgt := 102) dX12_stuck_53 (by decide) (by omega) (by omega) (fun c53 => ?_) (fun c53 => ?_)
            · omega
            · have hany : (List.range (f + 1)).any (fun q => sRw cf t q && cf q (t + 1)) = ((List.range f).any (fun q => sRw cf t q && cf q (t + 1)) || (sRw cf t f && cf f (t + 1))) := by rw [List.range_succ, List.any_append]; simp
              refine mm_aload_n dX12_stuck_56 rfl 0 rfl ?_
              refine rm_getA 43 dX12_stuck_57 ha zf_reached (by decide) rfl ?_
              refine mm_iload_n dX12_stuck_60 rfl 2 rfl ?_
              refine mm_aload_n dX12_stuck_61 rfl 0 rfl ?_
              refine rm_getA 43 dX12_stuck_62 ha zf_reached (by decide) rfl ?_
              refine mm_iload_n dX12_stuck_65 rfl 2 rfl ?_
              refine rm_zald (k := 43) dX12_stuck_66 ha rfl rfl rfl (show t + 1 < 25 from (by omega)) ?_
              refine mn_top (u := .int (nI (Bool.toNat ((List.range f).any (fun q => sRw cf t q && cf q (t + 1)))))) (congrArg Value.int (hto)) ?_
              refine mn_ifB_ne (tgt := 90) dX12_stuck_67 (by decide) (fun c67 => ?_) (fun c67 => ?_)
              · refine mm_iconst (v := nI 1) dX12_stuck_90 (by decide) ?_
                refine mm_goto (tgt := 95) dX12_stuck_91 (by decide) ?_
                refine rm_zast (k := 43) dX12_stuck_95 ha hf rfl rfl rfl (show t + 1 < 25 from (by omega)) (by decide) (fun h3 ha hf => ?_)
                refine mn_iinc (m := 1) (L' := [(4, .int (nI (f + 1))), (0, .ref (o)), (2, .int (nI (sMo cf t))), (3, .int (nI (t + 1)))]) dX12_stuck_96 (by decide) 3 rfl (by decide) rfl ?_
                refine mm_goto (tgt := 50) dX12_stuck_99 (by decide) ?_
                refine mn_sub [1, 2, 3, 0] rfl ?_
                refine iq (f + 1) (rm_up A3 43 (upd (A3 43) (t + 1) (nI (1)))) _ (by omega) (fun i hi => ?_) ?_ (fun j hj => (rm_up_n hj).trans (hA3 j hj)) ha hf
                · rw [rm_up_s, pk_un (by omega)]; exact hr3 i hi
                · rw [rm_up_s, pk_us, hany]; rw [c67]; rfl
              · refine mm_aload_n dX12_stuck_70 rfl 0 rfl ?_
                refine rm_getA 43 dX12_stuck_71 ha zf_reached (by decide) rfl ?_
                refine mm_iload dX12_stuck_74 3 rfl ?_
                refine rm_zald (k := 43) dX12_stuck_76 ha rfl rfl rfl (show f < 25 from (by omega)) ?_
                refine mn_top (u := .int (nI (Bool.toNat (sRw cf t f)))) (congrArg Value.int (hr3 f (by omega))) ?_
                refine mn_ifB_eq (tgt := 94) dX12_stuck_77 (by decide) (fun c77 => ?_) (fun c77 => ?_)
                · refine mm_iconst (v := nI 0) dX12_stuck_94 (by decide) ?_
                  refine rm_zast (k := 43) dX12_stuck_95 ha hf rfl rfl rfl (show t + 1 < 25 from (by omega)) (by decide) (fun h3 ha hf => ?_)
                  refine mn_iinc (m := 1) (L' := [(4, .int (nI (f + 1))), (0, .ref (o)), (2, .int (nI (sMo cf t))), (3, .int (nI (t + 1)))]) dX12_stuck_96 (by decide) 3 rfl (by decide) rfl ?_
                  refine mm_goto (tgt := 50) dX12_stuck_99 (by decide) ?_
                  refine mn_sub [1, 2, 3, 0] rfl ?_
                  refine iq (f + 1) (rm_up A3 43 (upd (A3 43) (t + 1) (nI (0)))) _ (by omega) (fun i hi => ?_) ?_ (fun j hj => (rm_up_n hj).trans (hA3 j hj)) ha hf
                  · rw [rm_up_s, pk_un (by omega)]; exact hr3 i hi
                  · rw [rm_up_s, pk_us, hany]; rw [c67, c77]; rfl
                · refine mm_aload_n dX12_stuck_80 rfl 0 rfl ?_
                  refine mm_iload dX12_stuck_81 3 rfl ?_
                  refine mm_iload_n dX12_stuck_83 rfl 2 rfl ?_
                  refine rm_callVr (As := [.int (nI (f)), .int (nI (t + 1))]) (rest := [.int (nI (t + 1)), .ref (o + rm_ps 43)]) (d2 := 4) dX12_stuck_84 ha zc_countItem zc_countItem_s rfl rfl rfl (Nat.le_of_ble_eq_true rfl) (Nat.le_of_ble_eq_true rfl) (by decide) (tm_countItem ha (cx_x hcx (fun _ _ => rfl) (fun j h1 h2 => hA3 j (by omega))) (show f < t + 1 by omega) (by omega)) ?_
                  have cle := ct_it_le (w := aW s n) (g := gd_ (aSg s n)) (T := T) (a := f) (b := t + 1)
                  refine mn_if_le (tgt := 94) dX12_stuck_87 (by decide) (by omega) (fun c87 => ?_) (fun c87 => ?_)
                  · refine mm_iconst (v := nI 0) dX12_stuck_94 (by decide) ?_
                    refine rm_zast (k := 43) dX12_stuck_95 ha hf rfl rfl rfl (show t + 1 < 25 from (by omega)) (by decide) (fun h3 ha hf => ?_)
                    refine mn_iinc (m := 1) (L' := [(4, .int (nI (f + 1))), (0, .ref (o)), (2, .int (nI (sMo cf t))), (3, .int (nI (t + 1)))]) dX12_stuck_96 (by decide) 3 rfl (by decide) rfl ?_
                    refine mm_goto (tgt := 50) dX12_stuck_99 (by decide) ?_
                    refine mn_sub [1, 2, 3, 0] rfl ?_
                    refine iq (f + 1) (rm_up A3 43 (upd (A3 43) (t + 1) (nI (0)))) _ (by omega) (fun i hi => ?_) ?_ (fun j hj => (rm_up_n hj).trans (hA3 j hj)) ha hf
                    · rw [rm_up_s, pk_un (by omega)]; exact hr3 i hi
                    · rw [rm_up_s, pk_us, hany]; rw [c67, c77, show cf f (t + 1) = false from by rw [hcf]; exact decide_eq_false (by omega)]; rfl
                  · refine mm_iconst (v := nI 1) dX12_stuck_90 (by decide) ?_
                    refine mm_goto (tgt := 95) dX12_stuck_91 (by decide) ?_
                    refine rm_zast (k := 43) dX12_stuck_95 ha hf rfl rfl rfl (show t + 1 < 25 from (by omega)) (by decide) (fun h3 ha hf => ?_)
                    refine mn_iinc (m := 1) (L' := [(4, .int (nI (f + 1))), (0, .ref (o)), (2, .int (nI (sMo cf t))), (3, .int (nI (t + 1)))]) dX12_stuck_96 (by decide) 3 rfl (by decide) rfl ?_
                    refine mm_goto (tgt := 50) dX12_stuck_99 (by decide) ?_
                    refine mn_sub [1, 2, 3, 0] rfl ?_
                    refine iq (f + 1) (rm_up A3 43 (upd (A3 43) (t + 1) (nI (1)))) _ (by omega) (fun i hi => ?_) ?_ (fun j hj => (rm_up_n hj).trans (hA3 j hj)) ha hf
                    · rw [rm_up_s, pk_un (by omega)]; exact hr3 i hi
                    · rw [rm_up_s, pk_us, hany]; rw [c67, c77, show cf f (t + 1) = true from by rw [hcf]; exact decide_eq_true (by omega)]; rfl
    · exact absurd rfl c16
  · cases c5
