set_option maxRecDepth 100000 in
set_option maxHeartbeats 4000000 in
theorem tm_read2 {l : Launch} {D : va_G} {aa : Nat → ClassId} {b0 : Nat} {h : mm_H} {o : Nat} {F : Nat → Int32} {G : Nat → Int64} {A : Nat → Nat → Int32} {B : Nat → Nat → Int64} (ha : rm_at o F G A B h) {nv : Nat} {sg sz up dn pk so ki : Nat → Nat} {pi : Nat → Int} {co : Nat → Bool} {ua da : Nat → Nat} (hvo : vo_ F A nv sg sz up dn pk) (hsy : sy_ A so ki pi co ua da) (hsk : sk_ F A) {v : Nat} {rdy : Int} (h42 : F 42 = Int32.ofInt rdy) (h1 : -1 ≤ rdy) (h2 : rdy < 6) (hv : v < nv) {w : ro_w} (hw1 : w.1 = sz v) (hwi : ∀ i, i < sz v → w.2.1 i = so (24 * v + i) ∧ w.2.2.1 i = ki (24 * v + i) ∧ w.2.2.2 i = co (24 * v + i)) (hd0 : ro_dot w 0 = false) (hrc : rdy = v → ∃ N, rc_ F A w (sg v) (gd_ (sg v)) N) : mm_V (zz_K l D aa b0) 8 yX12_read cX12_read 3 (some .int) 0 [(0, .ref (o)), (1, .int (nI (v)))] [] h 0 0 (fun r h' => ∃ N : Nat, r = some (.int (if 1000 < N then Int32.ofInt (-4) else nI N)) ∧ ∃ (F' : Nat → Int32) (A' : Nat → Nat → Int32), rm_at o F' G A' B h' ∧ rm_fr o h h' ∧ rd_F F F' ∧ rd_A A A' ∧ sk_ F' A' ∧ F' 42 = nI v ∧ rc_ F' A' w (sg v) (gd_ (sg v)) N ∧ ∀ i, st1 A i → st1 A' i) := by
  have hv6 : v < 6 := by have := hvo.1.2; omega
  obtain ⟨⟨a1, b1⟩, ⟨a2, b2⟩, -⟩ := hvo.2 v hv6
  have K115 : ∀ (N : Nat) (F1 : Nat → Int32) (A1 : Nat → Nat → Int32) (h1 : mm_H), rm_at o F1 G A1 B h1 → rm_fr o h h1 → rd_F F F1 → rd_A A A1 → sk_ F1 A1 → F1 42 = nI v → rc_ F1 A1 w (sg v) (gd_ (sg v)) N → (∀ i, st1 A i → st1 A1 i) → mm_V (zz_K l D aa b0) 8 yX12_read cX12_read 3 (some .int) 115 [(0, .ref (o)), (1, .int (nI (v)))] [] h1 0 0 (fun r h' => ∃ N : Nat, r = some (.int (if 1000 < N then Int32.ofInt (-4) else nI N)) ∧ ∃ (F' : Nat → Int32) (A' : Nat → Nat → Int32), rm_at o F' G A' B h' ∧ rm_fr o h h' ∧ rd_F F F' ∧ rd_A A A' ∧ sk_ F' A' ∧ F' 42 = nI v ∧ rc_ F' A' w (sg v) (gd_ (sg v)) N ∧ ∀ i, st1 A i → st1 A' i) := by
    intro N F1 A1 h1 ha hf hF hA hsk h42 hrc hs1
    have hN : N ≤ 3000 := by obtain ⟨T, I, hc, -, -, e, -⟩ := hrc; rw [e]; exact hc.2.2.2.2.2 0 (by decide)
    have h40 : F1 40 = nI N := by obtain ⟨T, I, -, -, -, -, e, -⟩ := hrc; exact e
    refine mm_aload_n dX12_read_115 rfl 0 rfl ?_
    refine rm_getI 40 dX12_read_116 ha zf_readingMany (by decide) rfl rfl ?_
    refine mn_top (u := .int (nI (N))) (congrArg Value.int ((h40))) ?_
    refine mm_sipush (v := nI 1000) dX12_read_119 (by decide) ?_
    refine mn_icmp_le (tgt := 130) dX12_read_122 (by decide) (by omega) (by omega) (fun c122 => ?_) (fun c122 => ?_)
    · refine mm_aload_n dX12_read_130 rfl 0 rfl ?_
      refine rm_getI 40 dX12_read_131 ha zf_readingMany (by decide) rfl rfl ?_
      refine mn_top (u := .int (nI (N))) (congrArg Value.int ((h40))) ?_
      exact mm_iret dX12_read_134 rfl (⟨N, by rw [if_neg (by omega)], F1, A1, ha, hf, hF, hA, hsk, h42, hrc, hs1⟩)
    · refine mm_bipush (v := (-4)) dX12_read_125 (by decide) ?_
      refine mm_goto (tgt := 134) dX12_read_127 (by decide) ?_
      exact mm_iret dX12_read_134 rfl (⟨N, by rw [if_pos (by omega)]; rfl, F1, A1, ha, hf, hF, hA, hsk, h42, hrc, hs1⟩)
  have lp : ∀ (n i : Nat) (F1 : Nat → Int32) (A1 : Nat → Nat → Int32) (h1 : mm_H), i + n = sz v → rm_at o F1 G A1 B h1 → rm_fr o h h1 → rd_F F F1 → rd_A A A1 → F1 12 = nI (sg v) → F1 13 = nI (gd_ (sg v)) → F1 15 = nI (sz v) → (∃ S : sc_S, sc_at F1 S) → F1 34 = nI 0 → A1 19 = A 19 → A1 20 = A 20 → A1 38 = A 38 → (∀ j, st1 A j → st1 A1 j) → (∀ j : Nat, j < i → A1 16 j = nI (so (24 * v + j)) ∧ A1 17 j = nI (ki (24 * v + j)) ∧ A1 18 j = nI (Bool.toNat (co (24 * v + j)))) → mm_V (zz_K l D aa b0) 8 yX12_read cX12_read 3 (some .int) 41 [(0, .ref (o)), (1, .int (nI (v))), (2, .int (nI (i)))] [] h1 0 0 (fun r h' => ∃ N : Nat, r = some (.int (if 1000 < N then Int32.ofInt (-4) else nI N)) ∧ ∃ (F' : Nat → Int32) (A' : Nat → Nat → Int32), rm_at o F' G A' B h' ∧ rm_fr o h h' ∧ rd_F F F' ∧ rd_A A A' ∧ sk_ F' A' ∧ F' 42 = nI v ∧ rc_ F' A' w (sg v) (gd_ (sg v)) N ∧ ∀ i, st1 A i → st1 A' i) := by
    intro n
    induction n with
    | zero =>
      intro i F1 A1 h1 hin ha hf hF hA h12 h13 h15 hS h34 h19 h20 h38 hs1 hrow
      refine mm_iload_n dX12_read_41 rfl 2 rfl ?_
      refine mm_aload_n dX12_read_42 rfl 0 rfl ?_
      refine rm_getI 15 dX12_read_43 ha zf_size (by decide) rfl rfl ?_
      refine mn_top (u := .int (nI (sz v))) (congrArg Value.int ((h15))) ?_
      refine mn_icmp_ge (tgt := 106) dX12_read_46 (by decide) (by omega) (by omega) (fun c46 => ?_) (fun c46 => ?_)
      · obtain ⟨w0, sg0, g0, T0, I0, S0, k1, -, k3, k4, -, k6⟩ := hsk
        obtain ⟨S1, hs⟩ := hS
        have hx : cx_at F1 A1 w (sg v) (gd_ (sg v)) T0 := by
          refine ⟨⟨by rw [hw1]; exact b2, by rw [hw1]; exact h15, fun j hj => ?_⟩, ⟨h12, b1⟩, ⟨h13, gd_le _ b1⟩, ?_, hd0⟩
          · have hj : j < sz v := by rw [← hw1]; exact hj
            obtain ⟨e1, e2, e3⟩ := hrow j (by omega)
            obtain ⟨⟨-, f1⟩, ⟨-, f2⟩, -⟩ := hsy (24 * v + j) (by omega)
            obtain ⟨q1, q2, q3⟩ := hwi j hj
            rw [q1, q2, q3]
            exact ⟨e1, e2, e3, f1, f2⟩
          · unfold tb_at; rw [h19]; exact k1.2.2.2.1
        have hI : iw_at A1 I0 := by unfold iw_at; rw [h20]; exact k4
        have hvl : vl_ A1 := vl_eq h38 k6
        refine mm_aload_n dX12_read_106 rfl 0 rfl ?_
        refine rm_callV (As := []) (rest := []) (d2 := 7) dX12_read_107 ha zc_readAll zc_readAll_s rfl rfl rfl (Nat.le_of_ble_eq_true rfl) (Nat.le_of_ble_eq_true rfl) (by decide) (tm_readAll ha hx hs k3 hI h34 hvl) (fun r h1 hq => ?_)
        obtain ⟨rfl, F2, A2, T2, I2, S2, ha, hf', hF', hA', hc, hx, hI, hs, h34, hvl, h40, hrest⟩ := hq
        have hf := hf.tr hf'
        have hF : rd_F F F2 := fun j hj => (hF' j (by omega) (by omega) (by omega) (by omega)).trans (hF j hj)
        have hA : rd_A A A2 := fun j hj => (hA' j (by omega) (by omega) (by omega)).trans (hA j hj)
        refine mm_aload_n dX12_read_110 rfl 0 rfl ?_
        refine mm_iload_n dX12_read_111 rfl 1 rfl ?_
        refine rm_putI 42 dX12_read_112 ha hf zf_ready (by decide) rfl rfl rfl rfl (fun h1 ha hf => ?_)
        have hF : rd_F F (upd F2 42 (nI (v))) := fun j hj => (pk_un (by omega)).trans (hF j hj)
        have hx : cx_at (upd F2 42 (nI (v))) A2 w (sg v) (gd_ (sg v)) T2 := cx_up (by decide) hx
        have hs : sc_at (upd F2 42 (nI (v))) S2 := sc_tk (fun j h1 h2 => pk_un (by omega)) hs
        refine mn_sub [0, 1] rfl ?_
        exact K115 (I2 0) _ A2 _ ha hf hF hA ⟨_, _, _, T2, I2, S2, hx, hs, hc.2.1, hI, (pk_un (by decide)).trans h34, hvl⟩ pk_us ⟨T2, I2, hc, hx, hI, rfl, (pk_un (by decide)).trans h40, hrest⟩ (fun j hj => st1_eq (hA' 17 (by decide) (by decide) (by decide)) (hA' 18 (by decide) (by decide) (by decide)) (hs1 j hj))
      · omega
    | succ n ih =>
      intro i F1 A1 h1 hin ha hf hF hA h12 h13 h15 hS h34 h19 h20 h38 hs1 hrow
      refine mm_iload_n dX12_read_41 rfl 2 rfl ?_
      refine mm_aload_n dX12_read_42 rfl 0 rfl ?_
      refine rm_getI 15 dX12_read_43 ha zf_size (by decide) rfl rfl ?_
      refine mn_top (u := .int (nI (sz v))) (congrArg Value.int ((h15))) ?_
      refine mn_icmp_ge (tgt := 106) dX12_read_46 (by decide) (by omega) (by omega) (fun c46 => ?_) (fun c46 => ?_)
      · omega
      · obtain ⟨⟨s1, t1⟩, ⟨s2, t2⟩, -, s4, -⟩ := hsy (24 * v + i) (by omega)
        refine mm_aload_n dX12_read_49 rfl 0 rfl ?_
        refine rm_getA 16 dX12_read_50 ha zf_rowSort (by decide) rfl ?_
        refine mm_iload_n dX12_read_53 rfl 2 rfl ?_
        refine mm_aload_n dX12_read_54 rfl 0 rfl ?_
        refine rm_getA 6 dX12_read_55 ha zf_sortOf (by decide) rfl ?_
        refine mm_bipush (v := nI 24) dX12_read_58 (by decide) ?_
        refine mm_iload_n dX12_read_60 rfl 1 rfl ?_
        refine mn_imul dX12_read_61 ?_
        refine mm_iload_n dX12_read_62 rfl 2 rfl ?_
        refine mn_iadd dX12_read_63 ?_
        refine rm_iald (k := 6) dX12_read_64 ha rfl rfl rfl (show ((24) * (v)) + (i) < 144 from (by omega)) ?_
        refine mn_top (u := .int (nI (so (24 * v + i)))) (congrArg Value.int (by rw [show A1 6 = A 6 from hA 6 (by decide)]; exact s1)) ?_
        refine rm_iast (k := 16) dX12_read_65 ha hf rfl rfl rfl (show i < 24 from (by omega)) (fun h1 ha hf => ?_)
        refine mm_aload_n dX12_read_66 rfl 0 rfl ?_
        refine rm_getA 17 dX12_read_67 ha zf_rowKind (by decide) rfl ?_
        refine mm_iload_n dX12_read_70 rfl 2 rfl ?_
        refine mm_aload_n dX12_read_71 rfl 0 rfl ?_
        refine rm_getA 7 dX12_read_72 ha zf_kindOf (by decide) rfl ?_
        refine mm_bipush (v := nI 24) dX12_read_75 (by decide) ?_
        refine mm_iload_n dX12_read_77 rfl 1 rfl ?_
        refine mn_imul dX12_read_78 ?_
        refine mm_iload_n dX12_read_79 rfl 2 rfl ?_
        refine mn_iadd dX12_read_80 ?_
        refine rm_iald (k := 7) dX12_read_81 ha rfl rfl rfl (show ((24) * (v)) + (i) < 144 from (by omega)) ?_
        refine mn_top (u := .int (nI (ki (24 * v + i)))) (congrArg Value.int (by rw [show (rm_up A1 16 (upd (A1 16) (i) (nI (so (24 * v + i))))) 7 = A 7 from by (first | rw [rm_up_n (by decide), rm_up_n (by decide)] | rw [rm_up_n (by decide)]); exact hA 7 (by decide)]; exact s2)) ?_
        refine rm_iast (k := 17) dX12_read_82 ha hf rfl rfl rfl (show i < 24 from (by omega)) (fun h1 ha hf => ?_)
        refine mm_aload_n dX12_read_83 rfl 0 rfl ?_
        refine rm_getA 18 dX12_read_84 ha zf_rowColoured (by decide) rfl ?_
        refine mm_iload_n dX12_read_87 rfl 2 rfl ?_
        refine mm_aload_n dX12_read_88 rfl 0 rfl ?_
        refine rm_getA 9 dX12_read_89 ha zf_isColoured (by decide) rfl ?_
        refine mm_bipush (v := nI 24) dX12_read_92 (by decide) ?_
        refine mm_iload_n dX12_read_94 rfl 1 rfl ?_
        refine mn_imul dX12_read_95 ?_
        refine mm_iload_n dX12_read_96 rfl 2 rfl ?_
        refine mn_iadd dX12_read_97 ?_
        refine rm_zald (k := 9) dX12_read_98 ha rfl rfl rfl (show ((24) * (v)) + (i) < 144 from (by omega)) ?_
        refine mn_top (u := .int (nI (Bool.toNat (co (24 * v + i))))) (congrArg Value.int (by rw [show (rm_up (rm_up A1 16 (upd (A1 16) (i) (nI (so (24 * v + i))))) 17 (upd ((rm_up A1 16 (upd (A1 16) (i) (nI (so (24 * v + i))))) 17) (i) (nI (ki (24 * v + i))))) 9 = A 9 from by (first | rw [rm_up_n (by decide), rm_up_n (by decide)] | rw [rm_up_n (by decide)]); exact hA 9 (by decide)]; exact s4)) ?_
        refine rm_zast (k := 18) dX12_read_99 ha hf rfl rfl rfl (show i < 24 from (by omega)) (mn_vz _) (fun h1 ha hf => ?_)
        generalize hA1 : (rm_up (rm_up (rm_up A1 16 (upd (A1 16) (i) (nI (so (24 * v + i))))) 17 (upd ((rm_up A1 16 (upd (A1 16) (i) (nI (so (24 * v + i))))) 17) (i) (nI (ki (24 * v + i))))) 18 (upd ((rm_up (rm_up A1 16 (upd (A1 16) (i) (nI (so (24 * v + i))))) 17 (upd ((rm_up A1 16 (upd (A1 16) (i) (nI (so (24 * v + i))))) 17) (i) (nI (ki (24 * v + i))))) 18) (i) (nI (Bool.toNat (co (24 * v + i)))))) = A2 at ha
        have g16 : A2 16 = upd (A1 16) i (nI (so (24 * v + i))) := by rw [← hA1]; simp only [rm_up, Nat.reduceEqDiff, if_false, reduceIte]
        have g17 : A2 17 = upd (A1 17) i (nI (ki (24 * v + i))) := by rw [← hA1]; simp only [rm_up, Nat.reduceEqDiff, if_false, reduceIte]
        have g18 : A2 18 = upd (A1 18) i (nI (Bool.toNat (co (24 * v + i)))) := by rw [← hA1]; simp only [rm_up, Nat.reduceEqDiff, if_false, reduceIte]
        have gn : ∀ j : Nat, j ≠ 16 → j ≠ 17 → j ≠ 18 → A2 j = A1 j := fun j h1 h2 h3 => by rw [← hA1, rm_up_n h3, rm_up_n h2, rm_up_n h1]
        refine mn_iinc (m := 1) (L' := [(2, .int (nI (i + 1))), (0, .ref (o)), (1, .int (nI (v)))]) dX12_read_100 (by decide) 2 rfl (by decide) rfl ?_
        refine mm_goto (tgt := 41) dX12_read_103 (by decide) ?_
        refine mn_sub [1, 2, 0] rfl ?_
        refine ih (i + 1) F1 A2 _ (by omega) ha hf hF (fun j hj => (gn j (by omega) (by omega) (by omega)).trans (hA j hj)) h12 h13 h15 hS h34 ((gn 19 (by decide) (by decide) (by decide)).trans h19) ((gn 20 (by decide) (by decide) (by decide)).trans h20) ((gn 38 (by decide) (by decide) (by decide)).trans h38) (fun j hj => ?_) (fun j hj => ?_)
        · unfold st1; rw [g17, g18]
          by_cases e : j = i
          · rw [e, pk_us, pk_us]; exact ⟨⟨_, t2, rfl⟩, _, rfl⟩
          · rw [pk_un e, pk_un e]; exact hs1 j hj
        rw [g16, g17, g18]
        by_cases e : j = i
        · rw [e, pk_us, pk_us, pk_us]; exact ⟨rfl, rfl, rfl⟩
        · rw [pk_un e, pk_un e, pk_un e]; exact hrow j (by omega)
  have hf : rm_fr o h h := rm_fr.rf
  refine mm_aload_n dX12_read_0 rfl 0 rfl ?_
  refine rm_getI 42 dX12_read_1 ha zf_ready (by decide) rfl rfl ?_
  refine mm_iload_n dX12_read_4 rfl 1 rfl ?_
  refine mn_top2 (w := .int (nI (v))) (u := .int (Int32.ofInt rdy)) (congrArg Value.int h42) ?_
  refine mm_icmp_eq (tgt := 115) dX12_read_5 (by decide) (fun c5 => ?_) (fun c5 => ?_)
  · have hr : rdy = v := (z_eq h1 (by omega) (by omega)).mp c5
    obtain ⟨N, hrc⟩ := hrc hr
    exact K115 N F A _ ha hf (fun _ _ => rfl) (fun _ _ => rfl) hsk (by rw [h42, hr]; rfl) hrc (fun _ z => z)
  · refine mm_aload_n dX12_read_8 rfl 0 rfl ?_
    refine mm_aload_n dX12_read_9 rfl 0 rfl ?_
    refine rm_getA 1 dX12_read_10 ha zf_signOf (by decide) rfl ?_
    refine mm_iload_n dX12_read_13 rfl 1 rfl ?_
    refine rm_iald (k := 1) dX12_read_14 ha rfl rfl rfl (show v < 6 from (by omega)) ?_
    refine mn_top (u := .int (nI (sg v))) (congrArg Value.int (a1)) ?_
    refine rm_putI 12 dX12_read_15 ha hf zf_sign (by decide) rfl rfl rfl rfl (fun h ha hf => ?_)
    refine mm_aload_n dX12_read_18 rfl 0 rfl ?_
    refine mm_aload_n dX12_read_19 rfl 0 rfl ?_
    refine rm_getI 12 dX12_read_20 ha zf_sign (by decide) rfl rfl ?_
    refine mn_top (u := .int (nI (sg v))) (congrArg Value.int (pk_us)) ?_
    refine rm_callSr (As := [.int (nI (sg v))]) (rest := [.ref (o)]) (d2 := 1) dX12_read_23 zc_groundOf rfl rfl (Nat.le_of_ble_eq_true rfl) (Nat.le_of_ble_eq_true rfl) (by decide) (tm_groundOf b1) ?_
    refine rm_putI 13 dX12_read_26 ha hf zf_ground (by decide) rfl rfl rfl rfl (fun h ha hf => ?_)
    refine mm_aload_n dX12_read_29 rfl 0 rfl ?_
    refine mm_aload_n dX12_read_30 rfl 0 rfl ?_
    refine rm_getA 2 dX12_read_31 ha zf_sizeOf (by decide) rfl ?_
    refine mm_iload_n dX12_read_34 rfl 1 rfl ?_
    refine rm_iald (k := 2) dX12_read_35 ha rfl rfl rfl (show v < 6 from (by omega)) ?_
    refine mn_top (u := .int (nI (sz v))) (congrArg Value.int (a2)) ?_
    refine rm_putI 15 dX12_read_36 ha hf zf_size (by decide) rfl rfl rfl rfl (fun h ha hf => ?_)
    obtain ⟨S0, hs0⟩ : ∃ S : sc_S, sc_at F S := by obtain ⟨w0, sg0, g0, T0, I0, S0, k1, k2, -⟩ := hsk; exact ⟨S0, k2⟩
    have h34 : F 34 = nI 0 := by obtain ⟨w0, sg0, g0, T0, I0, S0, k1, k2, k3, k4, k5, -⟩ := hsk; exact k5
    refine mm_iconst (v := nI 0) dX12_read_39 (by decide) ?_
    refine mm_istore_n (L' := [(2, .int (nI (0))), (0, .ref (o)), (1, .int (nI (v)))]) dX12_read_40 rfl (by decide) rfl ?_
    refine mn_sub [1, 2, 0] rfl ?_
    refine lp (sz v) 0 (upd (upd (upd F 12 (nI (sg v))) 13 (nI (gd_ (sg v)))) 15 (nI (sz v))) A _ (Nat.zero_add _) ha hf (fun j hj => (pk_un (by omega)).trans ((pk_un (by omega)).trans (pk_un (by omega)))) (fun _ _ => rfl) ((pk_un (by decide)).trans ((pk_un (by decide)).trans pk_us)) ((pk_un (by decide)).trans pk_us) pk_us ⟨S0, sc_tk (fun j h1 h2 => (pk_un (by omega)).trans ((pk_un (by omega)).trans (pk_un (by omega)))) hs0⟩ ((pk_un (by decide)).trans ((pk_un (by decide)).trans ((pk_un (by decide)).trans h34))) rfl rfl rfl (fun _ z => z) (fun j hj => by omega)
