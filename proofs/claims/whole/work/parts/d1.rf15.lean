/-! the reference: is a row as wanted -/
set_option maxRecDepth 100000 in
set_option maxHeartbeats 4000000 in
theorem tm_isWanted {l : Launch} {D : va_G} {aa : Nat → ClassId} {b0 : Nat} {h : mm_H} {o : Nat} {F : Nat → Int32} {G : Nat → Int64} {A : Nat → Nat → Int32} {B : Nat → Nat → Int64}  {sg : Nat} {wv : Nat → Int32} {cs : List Nat} (ha : rm_at o F G A B h) (hw : wI sg wv F A) (h15 : F 15 = nI (wl cs).length) (hly : lyr A (wl cs)) (hc : ∀ c ∈ cs, c < 14) (hl : cs.length ≤ 3) : mm_V (zz_K l D aa b0) 8 yX12_isWanted cX12_isWanted 5 (some .boolean) 0 [(0, .ref (o))] [] h 0 0 (fun r h' => r = some (.int (nI (Bool.toNat (wok sg wv cs)))) ∧ ∃ (F' : Nat → Int32) (A' : Nat → Nat → Int32), rm_at o F' G A' B h' ∧ rm_fr o h h' ∧ ra_F F F' ∧ ra_A A A' ∧ wI sg wv F' A') := by
  have hf : rm_fr o h h := rm_fr.rf
  obtain ⟨T, hT, hTd⟩ := hw.2.2.2.2.2.1
  obtain ⟨I, hI⟩ := hw.2.2.2.2.2.2.1
  obtain ⟨S, hS⟩ := hw.2.2.2.2.1
  have hrk := wM_rk hly hc hw.1.2 hl
  have hdd := wM_dd hly hc
  refine mm_aload_n dX12_isWanted_0 rfl 0 rfl ?_
  refine rm_callV (As := []) (rest := []) (d2 := 7) dX12_isWanted_1 ha zc_readAll zc_readAll_s rfl rfl rfl (Nat.le_of_ble_eq_true rfl) (Nat.le_of_ble_eq_true rfl) (by decide) (tm_readAll ha (wM_at hw hly h15 hc hl hT) hS hTd hI hw.2.2.1 hw.2.2.2.1) (fun r h1 hq => ?_)
  obtain ⟨rfl, F1, A1, T1, I1, S1, ha, hf', hF, hA, htc, hx, hI1, hs1, h34, hvl, h40, hrest⟩ := hq
  have hf := hf.tr hf'
  have hw1 : wI sg wv F1 A1 := wI_ra hw hF hA h34 hvl hs1 hx.2.2.2.1 htc.2.1 hI1
  have hrc : rc_ F1 A1 (wM A cs) sg (gd_ sg) (I1 0) := ⟨T1, I1, htc, hx, hI1, rfl, h40, hrest⟩
  have hN := rc_N hrc hrk.1
  have hN3 : I1 0 ≤ 3000 := htc.2.2.2.2.2 0 (by decide)
  have hF15 : F1 15 = nI (wl cs).length := hx.1.2.1
  have hwl := wl_len cs
  refine mm_aload_n dX12_isWanted_4 rfl 0 rfl ?_
  refine rm_getI 40 dX12_isWanted_5 ha zf_readingMany (by decide) rfl rfl ?_
  refine mn_top (u := .int (nI (I1 0))) (congrArg Value.int ((h40))) ?_
  refine mn_if_eq (tgt := 21) dX12_isWanted_8 (by decide) (by omega) (fun c8 => ?_) (fun c8 => ?_)
  · refine mm_iconst (v := nI 0) dX12_isWanted_21 (by decide) ?_
    exact mm_zret dX12_isWanted_22 rfl (by decide) (⟨by rw [wok_0 hdd (by omega)]; rfl, F1, A1, ha, hf, hF, hA, hw1⟩)
  · refine mm_aload_n dX12_isWanted_11 rfl 0 rfl ?_
    refine rm_getI 40 dX12_isWanted_12 ha zf_readingMany (by decide) rfl rfl ?_
    refine mn_top (u := .int (nI (I1 0))) (congrArg Value.int ((h40))) ?_
    refine mm_sipush (v := nI 1000) dX12_isWanted_15 (by decide) ?_
    refine mn_icmp_le (tgt := 23) dX12_isWanted_18 (by decide) (by omega) (by omega) (fun c18 => ?_) (fun c18 => ?_)
    · obtain ⟨q, y, g1, g2, g3, -, g5⟩ := rc_get hrc hrk.1 (k := 0) (by omega) (by omega)
      have hok : wok sg wv cs = nk (aV y) wv (wl cs) 0 0 := wok_y hdd (by omega) (by omega) g3
      refine mm_aload_n dX12_isWanted_23 rfl 0 rfl ?_
      refine rm_getA 39 dX12_isWanted_24 ha zf_sorted (by decide) rfl ?_
      refine mm_iconst (v := nI 0) dX12_isWanted_27 (by decide) ?_
      refine rm_iald (k := 39) dX12_isWanted_28 ha rfl rfl rfl (show 0 < 1001 from (by omega)) ?_
      refine mn_top (u := .int (nI (q))) (congrArg Value.int (g1)) ?_
      refine mm_istore_n (L' := [(1, .int (nI (q))), (0, .ref (o))]) dX12_isWanted_29 rfl (by decide) rfl ?_
      refine mm_iconst (v := nI 0) dX12_isWanted_30 (by decide) ?_
      refine mm_istore_n (L' := [(2, .int (nI (0))), (1, .int (nI (q))), (0, .ref (o))]) dX12_isWanted_31 rfl (by decide) rfl ?_
      refine mm_iconst (v := nI 1) dX12_isWanted_32 (by decide) ?_
      refine mm_istore_n (L' := [(3, .int (nI (1))), (2, .int (nI (0))), (1, .int (nI (q))), (0, .ref (o))]) dX12_isWanted_33 rfl (by decide) rfl ?_
      refine mm_iconst (v := nI 0) dX12_isWanted_34 (by decide) ?_
      refine mm_istore (L' := [(4, .int (nI (0))), (3, .int (nI (1))), (2, .int (nI (0))), (1, .int (nI (q))), (0, .ref (o))]) dX12_isWanted_35 (by decide) rfl ?_
      refine mn_sub [4, 3, 2, 1, 0] rfl ?_
      suffices lp : ∀ (ll : List (Nat × Nat)) (i k : Nat) (b : Bool), (∀ j, j < ll.length → ll.getD j (0, 0) = (wl cs).getD (i + j) (0, 0)) → i + ll.length = (wl cs).length → k + cnN ll ≤ 3 → wok sg wv cs = (b && nk (aV y) wv ll i k) → mm_V (zz_K l D aa b0) 8 yX12_isWanted cX12_isWanted 5 (some .boolean) 37 [(0, .ref (o)), (1, .int (nI (q))), (2, .int (nI (k))), (3, .int (nI (Bool.toNat (b)))), (4, .int (nI (i)))] [] h1 0 0 (fun r h' => r = some (.int (nI (Bool.toNat (wok sg wv cs)))) ∧ ∃ (F' : Nat → Int32) (A' : Nat → Nat → Int32), rm_at o F' G A' B h' ∧ rm_fr o h h' ∧ ra_F F F' ∧ ra_A A A' ∧ wI sg wv F' A') from lp (wl cs) 0 0 true (fun j _ => by rw [Nat.zero_add]) (Nat.zero_add _) (by rw [cnN_wl]; omega) hok
      intro ll
      induction ll with
      | nil =>
        intro i k b hel hil hkn hob
        have hil : i + 0 = (wl cs).length := hil
        refine mm_iload dX12_isWanted_37 4 rfl ?_
        refine mm_aload_n dX12_isWanted_39 rfl 0 rfl ?_
        refine rm_getI 15 dX12_isWanted_40 ha zf_size (by decide) rfl rfl ?_
        refine mn_top (u := .int (nI ((wl cs).length))) (congrArg Value.int ((hF15))) ?_
        refine mn_icmp_ge (tgt := 97) dX12_isWanted_43 (by decide) (by omega) (by omega) (fun c43 => ?_) (fun c43 => ?_)
        · refine mm_iload_n dX12_isWanted_97 rfl 3 rfl ?_
          have hob : wok sg wv cs = b := by rw [hob]; exact Bool.and_true b
          exact mm_zret dX12_isWanted_98 rfl (by exact mn_nz _) (⟨by rw [hob], F1, A1, ha, hf, hF, hA, hw1⟩)
        · omega
      | cons t ll ih =>
        intro i k b hel hil hkn hob
        rw [List.length_cons] at hil
        have ht : (wl cs).getD i (0, 0) = t := (hel 0 (Nat.succ_pos _)).symm
        obtain ⟨hin, -⟩ := wl_in cs i (by omega)
        rw [ht] at hin
        have ht4 : t.1 < 4 := by rcases hin with z | z <;> rw [z] <;> decide
        have h16 : A1 16 i = nI t.1 := by have := (hx.1.2.2 i (show i < (wl cs).length by omega)).1; rw [this]; show nI ((wl cs).getD i (0, 0)).1 = _; rw [ht]
        have hvi : A1 38 (24 * q + i) = nI (aV y i) := g5 i (show i < (wl cs).length by omega)
        have hel2 : ∀ j, j < ll.length → ll.getD j (0, 0) = (wl cs).getD (i + 1 + j) (0, 0) := fun j hj => by have := hel (j + 1) (Nat.succ_lt_succ hj); rw [show i + 1 + j = i + (j + 1) by omega]; exact this
        have hcn : cnN (t :: ll) = (if t.1 = 1 then 1 else 0) + cnN ll := rfl
        rw [hcn] at hkn
        refine mm_iload dX12_isWanted_37 4 rfl ?_
        refine mm_aload_n dX12_isWanted_39 rfl 0 rfl ?_
        refine rm_getI 15 dX12_isWanted_40 ha zf_size (by decide) rfl rfl ?_
        refine mn_top (u := .int (nI ((wl cs).length))) (congrArg Value.int ((hF15))) ?_
        refine mn_icmp_ge (tgt := 97) dX12_isWanted_43 (by decide) (by omega) (by omega) (fun c43 => ?_) (fun c43 => ?_)
        · omega
        · refine mm_aload_n dX12_isWanted_46 rfl 0 rfl ?_
          refine rm_getA 16 dX12_isWanted_47 ha zf_rowSort (by decide) rfl ?_
          refine mm_iload dX12_isWanted_50 4 rfl ?_
          refine rm_iald (k := 16) dX12_isWanted_52 ha rfl rfl rfl (show i < 24 from (by omega)) ?_
          refine mn_top (u := .int (nI (t.1))) (congrArg Value.int (h16)) ?_
          refine mm_iconst (v := nI 1) dX12_isWanted_53 (by decide) ?_
          refine mn_icmp_ne (tgt := 91) dX12_isWanted_54 (by decide) (by omega) (by omega) (fun c54 => ?_) (fun c54 => ?_)
          · rw [if_neg c54] at hkn
            refine mn_iinc (m := 1) (L' := [(4, .int (nI (i + 1))), (0, .ref (o)), (1, .int (nI (q))), (2, .int (nI (k))), (3, .int (nI (Bool.toNat (b))))]) dX12_isWanted_91 (by decide) 4 rfl (by decide) rfl ?_
            refine mm_goto (tgt := 37) dX12_isWanted_94 (by decide) ?_
            refine mn_sub [1, 2, 3, 4, 0] rfl ?_
            exact ih (i + 1) (k) (b) hel2 (by omega) (by omega) (by rw [hob, nk_d c54])
          · rw [if_pos c54] at hkn
            rw [nk_n c54] at hob
            have hob2 : wok sg wv cs = ((b && decide (nI (aV y i) = wv k)) && nk (aV y) wv ll (i + 1) (k + 1)) := by rw [hob, Bool.and_assoc]
            refine mm_iload_n dX12_isWanted_57 rfl 3 rfl ?_
            refine mn_ifB_eq (tgt := 86) dX12_isWanted_58 (by decide) (fun c58 => ?_) (fun c58 => ?_)
            · refine mm_iconst (v := nI 0) dX12_isWanted_86 (by decide) ?_
              refine mn_top (u := .int (nI (Bool.toNat (b && decide (nI (aV y i) = wv k))))) (congrArg Value.int (congrArg nI (show _ = Bool.toNat (b && decide (nI (aV y i) = wv k)) from by rw [c58]; rfl))) ?_
              refine mm_istore_n (L' := [(3, .int (nI (Bool.toNat (b && decide (nI (aV y i) = wv k))))), (0, .ref (o)), (1, .int (nI (q))), (2, .int (nI (k))), (4, .int (nI (i)))]) dX12_isWanted_87 rfl (by decide) rfl ?_
              refine mn_iinc (m := 1) (L' := [(2, .int (nI (k + 1))), (3, .int (nI (Bool.toNat (b && decide (nI (aV y i) = wv k))))), (0, .ref (o)), (1, .int (nI (q))), (4, .int (nI (i)))]) dX12_isWanted_88 (by decide) 3 rfl (by decide) rfl ?_
              refine mn_iinc (m := 1) (L' := [(4, .int (nI (i + 1))), (2, .int (nI (k + 1))), (3, .int (nI (Bool.toNat (b && decide (nI (aV y i) = wv k))))), (0, .ref (o)), (1, .int (nI (q)))]) dX12_isWanted_91 (by decide) 4 rfl (by decide) rfl ?_
              refine mm_goto (tgt := 37) dX12_isWanted_94 (by decide) ?_
              refine mn_sub [3, 4, 1, 2, 0] rfl ?_
              exact ih (i + 1) (k + 1) (b && decide (nI (aV y i) = wv k)) hel2 (by omega) (by omega) (hob2)
            · refine mm_aload_n dX12_isWanted_61 rfl 0 rfl ?_
              refine rm_getA 38 dX12_isWanted_62 ha zf_values (by decide) rfl ?_
              refine mm_bipush (v := nI 24) dX12_isWanted_65 (by decide) ?_
              refine mm_iload_n dX12_isWanted_67 rfl 1 rfl ?_
              refine mn_imul dX12_isWanted_68 ?_
              refine mm_iload dX12_isWanted_69 4 rfl ?_
              refine mn_iadd dX12_isWanted_71 ?_
              refine rm_iald (k := 38) dX12_isWanted_72 ha rfl rfl rfl (show ((24) * (q)) + (i) < 24000 from (by omega)) ?_
              refine mn_top (u := .int (nI (aV y i))) (congrArg Value.int (hvi)) ?_
              refine mm_aload_n dX12_isWanted_73 rfl 0 rfl ?_
              refine rm_getA 53 dX12_isWanted_74 ha zf_wantedValue (by decide) rfl ?_
              refine mm_iload_n dX12_isWanted_77 rfl 2 rfl ?_
              refine rm_iald (k := 53) dX12_isWanted_78 ha rfl rfl rfl (show k < 3 from (by omega)) ?_
              refine mn_top (u := .int (wv k)) (congrArg Value.int (hw1.2.2.2.2.2.2.2.1 k (by omega))) ?_
              refine mm_icmp_ne (tgt := 86) dX12_isWanted_79 (by decide) (fun c79 => ?_) (fun c79 => ?_)
              · refine mm_iconst (v := nI 0) dX12_isWanted_86 (by decide) ?_
                refine mn_top (u := .int (nI (Bool.toNat (b && decide (nI (aV y i) = wv k))))) (congrArg Value.int (congrArg nI (show _ = Bool.toNat (b && decide (nI (aV y i) = wv k)) from by rw [c58, decide_eq_false c79]; rfl))) ?_
                refine mm_istore_n (L' := [(3, .int (nI (Bool.toNat (b && decide (nI (aV y i) = wv k))))), (0, .ref (o)), (1, .int (nI (q))), (2, .int (nI (k))), (4, .int (nI (i)))]) dX12_isWanted_87 rfl (by decide) rfl ?_
                refine mn_iinc (m := 1) (L' := [(2, .int (nI (k + 1))), (3, .int (nI (Bool.toNat (b && decide (nI (aV y i) = wv k))))), (0, .ref (o)), (1, .int (nI (q))), (4, .int (nI (i)))]) dX12_isWanted_88 (by decide) 3 rfl (by decide) rfl ?_
                refine mn_iinc (m := 1) (L' := [(4, .int (nI (i + 1))), (2, .int (nI (k + 1))), (3, .int (nI (Bool.toNat (b && decide (nI (aV y i) = wv k))))), (0, .ref (o)), (1, .int (nI (q)))]) dX12_isWanted_91 (by decide) 4 rfl (by decide) rfl ?_
                refine mm_goto (tgt := 37) dX12_isWanted_94 (by decide) ?_
                refine mn_sub [3, 4, 1, 2, 0] rfl ?_
                exact ih (i + 1) (k + 1) (b && decide (nI (aV y i) = wv k)) hel2 (by omega) (by omega) (hob2)
              · refine mm_iconst (v := nI 1) dX12_isWanted_82 (by decide) ?_
                refine mm_goto (tgt := 87) dX12_isWanted_83 (by decide) ?_
                refine mn_top (u := .int (nI (Bool.toNat (b && decide (nI (aV y i) = wv k))))) (congrArg Value.int (congrArg nI (show _ = Bool.toNat (b && decide (nI (aV y i) = wv k)) from by rw [c58, decide_eq_true c79]; rfl))) ?_
                refine mm_istore_n (L' := [(3, .int (nI (Bool.toNat (b && decide (nI (aV y i) = wv k))))), (0, .ref (o)), (1, .int (nI (q))), (2, .int (nI (k))), (4, .int (nI (i)))]) dX12_isWanted_87 rfl (by decide) rfl ?_
                refine mn_iinc (m := 1) (L' := [(2, .int (nI (k + 1))), (3, .int (nI (Bool.toNat (b && decide (nI (aV y i) = wv k))))), (0, .ref (o)), (1, .int (nI (q))), (4, .int (nI (i)))]) dX12_isWanted_88 (by decide) 3 rfl (by decide) rfl ?_
                refine mn_iinc (m := 1) (L' := [(4, .int (nI (i + 1))), (2, .int (nI (k + 1))), (3, .int (nI (Bool.toNat (b && decide (nI (aV y i) = wv k))))), (0, .ref (o)), (1, .int (nI (q)))]) dX12_isWanted_91 (by decide) 4 rfl (by decide) rfl ?_
                refine mm_goto (tgt := 37) dX12_isWanted_94 (by decide) ?_
                refine mn_sub [3, 4, 1, 2, 0] rfl ?_
                exact ih (i + 1) (k + 1) (b && decide (nI (aV y i) = wv k)) hel2 (by omega) (by omega) (hob2)
    · refine mm_iconst (v := nI 0) dX12_isWanted_21 (by decide) ?_
      exact mm_zret dX12_isWanted_22 rfl (by decide) (⟨by rw [wok_0 hdd (by omega)]; rfl, F1, A1, ha, hf, hF, hA, hw1⟩)
