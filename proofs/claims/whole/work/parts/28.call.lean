theorem lc_p (k : Nat) : nI (k + 1) - nI 1 = nI k := by rw [pk_sub (by omega)]; rfl
theorem lc_m (k : Nat) : nI k + Int32.ofInt (-1) = nI k - nI 1 := by
  rw [show Int32.ofInt (-1) = - nI 1 from by decide, ← Int32.sub_eq_add_neg]
theorem cx_A {F F1 : Nat → Int32} {A A1 : Nat → Nat → Int32} {w : ro_w} {sg g : Nat} {T T1 : Nat → Nat} (hF : sc_F F F1) (hA : ∀ j : Nat, j ≠ 19 → j ≠ 20 → A1 j = A j) (ht : tb_at A1 T1) (h : cx_at F A w sg g T) : cx_at F1 A1 w sg g T1 := by
  obtain ⟨h1, h2, h3, -, h5⟩ := cx_F hF h
  refine ⟨⟨h1.1, h1.2.1, ?_⟩, h2, h3, ht, h5⟩
  rw [hA 16 (by decide) (by decide), hA 17 (by decide) (by decide), hA 18 (by decide) (by decide)]
  exact h1.2.2
theorem tb_step {w : ro_w} {sg : Nat} {T T2 T3 : Nat → Nat} {k a b v1 v2 : Nat} (hk : k < 7) (hab : a < b) (hb : b ≤ w.1) (hn : w.1 ≤ 24) (hp : tb_pt w sg T k a b) (ho : tb_ok w sg T (k + 1)) (e1 : v1 = min (sm_o (sp_unit w sg T k a b)) 3000) (e2 : T2 = rm_up T (tb_ix 0 k a b) v1) (e3 : v2 = min (sm_o (sp_pair w sg T2 k a b)) 3000) (e4 : T3 = rm_up T2 (tb_ix 1 k a b) v2) : tb_pt w sg T3 k a (b + 1) ∧ tb_ok w sg T3 (k + 1) := by
  constructor
  · intro a' b' h1 h2 h3
    by_cases hq : a' = a ∧ b' = b
    · obtain ⟨rfl, rfl⟩ := hq
      unfold tb_d
      subst e4
      rw [(sp_up (by decide) hk (by omega) (by omega) a' b').1, (sp_up (by decide) hk (by omega) (by omega) a' b').2, rm_up_s, rm_up_n (tb_ix_ne (by omega) (by omega) (by omega) (by omega) (by omega))]
      refine ⟨?_, e3⟩
      subst e2
      rw [rm_up_s, (sp_up (by decide) hk (by omega) (by omega) a' b').1]
      exact e1
    · subst e4
      apply tb_d_up (Nat.le_refl _) hk (by decide) (by omega) (by omega) (by omega) (by omega) (by omega)
      subst e2
      apply tb_d_up (Nat.le_refl _) hk (by decide) (by omega) (by omega) (by omega) (by omega) (by omega)
      exact hp a' b' (by omega) h2 h3
  · intro k' a' b' h0 h1 h2 h3
    subst e4
    apply tb_d_up (by omega) h1 (by decide) (by omega) (by omega) (by omega) (by omega) (by omega)
    subst e2
    apply tb_d_up (by omega) h1 (by decide) (by omega) (by omega) (by omega) (by omega) (by omega)
    exact ho k' a' b' h0 h1 h2 h3
theorem sc_c0 {F : Nat → Int32} {l : List sc_O} {x : Nat × Nat × Nat × Bool × Nat} (hs : sc_at F (List.foldl sc_step (0, -1, false, x) l)) : F 21 = nI (min (sm_o l) 3000) := by
  have h := hs.1
  rw [sc_cnt l _ rfl (Nat.zero_le _)] at h
  rw [h]
  show nI (min (0 + sm_o l) 3000) = _
  rw [Nat.zero_add]
set_option maxRecDepth 100000 in
set_option maxHeartbeats 4000000 in
theorem tm_beginScan {l : Launch} {D : va_G} {aa : Nat → ClassId} {b0 : Nat} {h : mm_H} {o : Nat} {F : Nat → Int32} {G : Nat → Int64} {A : Nat → Nat → Int32} {B : Nat → Nat → Int64} (ha : rm_at o F G A B h) {S : sc_S} (hs : sc_at F S) {wv : Int} (hw1 : -1 ≤ wv) (hw2 : wv < 1073741824) : mm_V (zz_K l D aa b0) 0 yX12_beginScan cX12_beginScan 2 none 0 [(0, .ref (o)), (1, .int (Int32.ofInt wv))] [] h 0 0 (fun r h' => r = none ∧ ∃ F' : Nat → Int32, rm_at o F' G A B h' ∧ rm_fr o h h' ∧ sc_at F' (0, wv, false, S.2.2.2) ∧ sc_F F F') := by
  have hf : rm_fr o h h := rm_fr.rf
  refine mm_aload_n dX12_beginScan_0 rfl 0 rfl ?_
  refine mm_iconst (v := nI 0) dX12_beginScan_1 (by decide) ?_
  refine rm_putI 21 dX12_beginScan_2 ha hf zf_counted (by decide) rfl rfl rfl rfl (fun h ha hf => ?_)
  refine mm_aload_n dX12_beginScan_5 rfl 0 rfl ?_
  refine mm_iload_n dX12_beginScan_6 rfl 1 rfl ?_
  refine rm_putI 22 dX12_beginScan_7 ha hf zf_wanted (by decide) rfl rfl rfl rfl (fun h ha hf => ?_)
  refine mm_aload_n dX12_beginScan_10 rfl 0 rfl ?_
  refine mm_iconst (v := nI 0) dX12_beginScan_11 (by decide) ?_
  refine rm_putI 23 dX12_beginScan_12 ha hf zf_isTaken (by decide) rfl rfl (by decide) (by decide) (fun h ha hf => ?_)
  exact mm_vret dX12_beginScan_15 rfl (⟨rfl, _, ha, hf, ⟨Eq.trans (pk_un (by decide)) (Eq.trans (pk_un (by decide)) pk_us), Eq.trans (pk_un (by decide)) pk_us, pk_us, Eq.trans (pk_un (by decide)) (Eq.trans (pk_un (by decide)) (Eq.trans (pk_un (by decide)) (hs.2.2.2.1))), Eq.trans (pk_un (by decide)) (Eq.trans (pk_un (by decide)) (Eq.trans (pk_un (by decide)) (hs.2.2.2.2.1))), Eq.trans (pk_un (by decide)) (Eq.trans (pk_un (by decide)) (Eq.trans (pk_un (by decide)) (hs.2.2.2.2.2.1))), Eq.trans (pk_un (by decide)) (Eq.trans (pk_un (by decide)) (Eq.trans (pk_un (by decide)) (hs.2.2.2.2.2.2.1))), Eq.trans (pk_un (by decide)) (Eq.trans (pk_un (by decide)) (Eq.trans (pk_un (by decide)) (hs.2.2.2.2.2.2.2.1))), Nat.zero_le _, hw1, hw2⟩, ((sc_F.rf.up (by decide)).up (by decide)).up (by decide)⟩)
set_option maxRecDepth 100000 in
set_option maxHeartbeats 4000000 in
theorem tm_countAll {l : Launch} {D : va_G} {aa : Nat → ClassId} {b0 : Nat} {h : mm_H} {o : Nat} {F : Nat → Int32} {G : Nat → Int64} {A : Nat → Nat → Int32} {B : Nat → Nat → Int64} (ha : rm_at o F G A B h) {w : ro_w} {sg g : Nat} {T I : Nat → Nat} (hx0 : cx_at F A w sg g T) {S : sc_S} (hs : sc_at F S) (hd : tb_dg T) (hI : iw_at A I) : mm_V (zz_K l D aa b0) 5 yX12_countAll cX12_countAll 5 none 0 [(0, .ref (o))] [] h 0 0 (fun r h' => r = none ∧ ∃ (F' : Nat → Int32) (A' : Nat → Nat → Int32) (T' I' : Nat → Nat) (S' : sc_S), rm_at o F' G A' B h' ∧ rm_fr o h h' ∧ sc_F F F' ∧ sc_at F' S' ∧ (∀ j : Nat, j ≠ 19 → j ≠ 20 → A' j = A j) ∧ tb_at A' T' ∧ tb_dg T' ∧ tb_ok w sg T' 0 ∧ iw_at A' I' ∧ iw_ok w g T' I' 0) := by
  have hn0 := hx0.1.1
  have lpF : ∀ (kr : Nat), kr ≤ w.1 → ∀ (F1 : Nat → Int32) (A1 : Nat → Nat → Int32) (T1 I1 : Nat → Nat) (h1 : mm_H), tb_ok w sg T1 0 → iw_ok w g T1 I1 kr → rm_at o F1 G A1 B h1 → rm_fr o h h1 → sc_F F F1 → (∀ j : Nat, j ≠ 19 → j ≠ 20 → A1 j = A j) → tb_at A1 T1 → tb_dg T1 → (∃ S : sc_S, sc_at F1 S) → iw_at A1 I1 → mm_V (zz_K l D aa b0) 5 yX12_countAll cX12_countAll 5 none 137 [(0, .ref (o)), (1, .int (nI kr - nI 1))] [] h1 0 0 (fun r h' => r = none ∧ ∃ (F' : Nat → Int32) (A' : Nat → Nat → Int32) (T' I' : Nat → Nat) (S' : sc_S), rm_at o F' G A' B h' ∧ rm_fr o h h' ∧ sc_F F F' ∧ sc_at F' S' ∧ (∀ j : Nat, j ≠ 19 → j ≠ 20 → A' j = A j) ∧ tb_at A' T' ∧ tb_dg T' ∧ tb_ok w sg T' 0 ∧ iw_at A' I' ∧ iw_ok w g T' I' 0) := by
    intro kr
    induction kr with
    | zero =>
      intro hkr F1 A1 T1 I1 h1 hok hiw ha hf hF hA ht hd hS hI
      refine mm_iload_n dX12_countAll_137 rfl 1 rfl ?_
      refine mm_if_lt (tgt := 199) dX12_countAll_138 (by decide) (fun c138 => ?_) (fun c138 => ?_)
      · obtain ⟨S, hs⟩ := hS
        exact mm_vret dX12_countAll_199 rfl (⟨rfl, F1, A1, T1, I1, S, ha, hf, hF, hs, hA, ht, hd, hok, hI, hiw⟩)
      · exact absurd (by decide) c138
    | succ a ihF =>
      intro hkr F1 A1 T1 I1 h1 hok hiw ha hf hF hA ht hd hS hI
      rw [lc_p a]
      have hx := cx_A hF hA ht hx0
      have hw := hx.1
      have hn := hw.1
      refine mm_iload_n dX12_countAll_137 rfl 1 rfl ?_
      refine mn_if_lt (tgt := 199) dX12_countAll_138 (by decide) (by omega) ?_
      refine mm_lconst (v := lN 0) dX12_countAll_141 (by decide) ?_
      refine mm_lstore_n (L' := [(2, .long (lN (0))), (0, .ref (o)), (1, .int (nI (a)))]) dX12_countAll_142 rfl (by decide) rfl ?_
      refine mm_iload_n dX12_countAll_143 rfl 2 rfl ?_
      refine mm_iconst (v := nI 1) dX12_countAll_144 (by decide) ?_
      refine mn_iadd dX12_countAll_145 ?_
      refine mm_istore (L' := [(4, .int (nI ((a) + (1)))), (2, .long (lN (0))), (0, .ref (o)), (1, .int (nI (a)))]) dX12_countAll_146 (by decide) rfl ?_
      have inn : ∀ (n b acc : Nat), w.1 + 1 - b ≤ n → a < b ∧ b ≤ w.1 + 1 → acc ≤ 9000000 * b → acc + iw_s w g T1 I1 a (w.1 + 1 - b) b = iw_s w g T1 I1 a (w.1 - a) (a + 1) → mm_V (zz_K l D aa b0) 5 yX12_countAll cX12_countAll 5 none 148 [(0, .ref (o)), (1, .int (nI (a))), (2, .long (lN (acc))), (4, .int (nI (b)))] [] h1 0 0 (fun r h' => r = none ∧ ∃ (F' : Nat → Int32) (A' : Nat → Nat → Int32) (T' I' : Nat → Nat) (S' : sc_S), rm_at o F' G A' B h' ∧ rm_fr o h h' ∧ sc_F F F' ∧ sc_at F' S' ∧ (∀ j : Nat, j ≠ 19 → j ≠ 20 → A' j = A j) ∧ tb_at A' T' ∧ tb_dg T' ∧ tb_ok w sg T' 0 ∧ iw_at A' I' ∧ iw_ok w g T' I' 0) := by
        intro n
        induction n with
        | zero =>
          intro b acc hn1 hb1 hacc he
          refine mm_iload dX12_countAll_148 3 rfl ?_
          refine mm_aload_n dX12_countAll_150 rfl 0 rfl ?_
          refine rm_getI 15 dX12_countAll_151 ha zf_size (by decide) rfl rfl ?_
          refine mn_top (u := .int (nI (w.1))) (congrArg Value.int ((hx.1.2.1))) ?_
          refine mn_icmp_gt (tgt := 183) dX12_countAll_154 (by decide) (by omega) (by omega) (fun c154 => ?_) (fun c154 => ?_)
          · rw [show w.1 + 1 - b = 0 from by omega] at he
            refine mm_aload_n dX12_countAll_183 rfl 0 rfl ?_
            refine rm_getA 20 dX12_countAll_184 ha zf_itemWays (by decide) rfl ?_
            refine mm_iload_n dX12_countAll_187 rfl 1 rfl ?_
            refine mm_lload_n dX12_countAll_188 rfl 2 rfl ?_
            refine rm_callSr (As := [.long (lN (acc))]) (rest := [.int (nI (a)), .ref (o + rm_ps 20)]) (d2 := 0) dX12_countAll_189 zc_cap rfl rfl (Nat.le_of_ble_eq_true rfl) (Nat.le_of_ble_eq_true rfl) (by decide) (tm_cap (n := acc) (by omega)) ?_
            refine rm_iast (k := 20) dX12_countAll_192 ha hf rfl rfl rfl (show a < 25 from (by omega)) (fun h1 ha hf => ?_)
            have he : acc = iw_s w g T1 I1 a (w.1 - a) (a + 1) := by rw [← he]; rfl
            have hA : ∀ j : Nat, j ≠ 19 → j ≠ 20 → (rm_up A1 20 (upd (A1 20) (a) (nI (min (acc) 3000)))) j = A j := fun j h1 h2 => (rm_up_n h2).trans (hA j h1 h2)
            have hI := iw_at_up hI (i := a) (v := min acc 3000) (Nat.min_le_right _ _)
            have ht : tb_at (rm_up A1 20 (upd (A1 20) (a) (nI (min (acc) 3000)))) T1 := fun j hj => by rw [rm_up_n (by decide)]; exact ht j hj
            refine mm_iinc (v := nI a - nI 1) (L' := [(1, .int (nI a - nI 1)), (0, .ref (o)), (2, .long (lN (acc))), (4, .int (nI (b)))]) dX12_countAll_193 1 rfl (lc_m a) (by decide) rfl ?_
            refine mm_goto (tgt := 137) dX12_countAll_196 (by decide) ?_
            have hiw := iw_ok_up hiw (by omega)
            rw [← he] at hiw
            refine mn_sub [1, 0] rfl ?_
            exact ihF (by omega) _ _ _ _ _ hok hiw ha hf hF hA ht hd hS hI
          · omega
        | succ n ih =>
          intro b acc hn1 hb1 hacc he
          refine mm_iload dX12_countAll_148 3 rfl ?_
          refine mm_aload_n dX12_countAll_150 rfl 0 rfl ?_
          refine rm_getI 15 dX12_countAll_151 ha zf_size (by decide) rfl rfl ?_
          refine mn_top (u := .int (nI (w.1))) (congrArg Value.int ((hx.1.2.1))) ?_
          refine mn_icmp_gt (tgt := 183) dX12_countAll_154 (by decide) (by omega) (by omega) (fun c154 => ?_) (fun c154 => ?_)
          · rw [show w.1 + 1 - b = 0 from by omega] at he
            refine mm_aload_n dX12_countAll_183 rfl 0 rfl ?_
            refine rm_getA 20 dX12_countAll_184 ha zf_itemWays (by decide) rfl ?_
            refine mm_iload_n dX12_countAll_187 rfl 1 rfl ?_
            refine mm_lload_n dX12_countAll_188 rfl 2 rfl ?_
            refine rm_callSr (As := [.long (lN (acc))]) (rest := [.int (nI (a)), .ref (o + rm_ps 20)]) (d2 := 0) dX12_countAll_189 zc_cap rfl rfl (Nat.le_of_ble_eq_true rfl) (Nat.le_of_ble_eq_true rfl) (by decide) (tm_cap (n := acc) (by omega)) ?_
            refine rm_iast (k := 20) dX12_countAll_192 ha hf rfl rfl rfl (show a < 25 from (by omega)) (fun h1 ha hf => ?_)
            have he : acc = iw_s w g T1 I1 a (w.1 - a) (a + 1) := by rw [← he]; rfl
            have hA : ∀ j : Nat, j ≠ 19 → j ≠ 20 → (rm_up A1 20 (upd (A1 20) (a) (nI (min (acc) 3000)))) j = A j := fun j h1 h2 => (rm_up_n h2).trans (hA j h1 h2)
            have hI := iw_at_up hI (i := a) (v := min acc 3000) (Nat.min_le_right _ _)
            have ht : tb_at (rm_up A1 20 (upd (A1 20) (a) (nI (min (acc) 3000)))) T1 := fun j hj => by rw [rm_up_n (by decide)]; exact ht j hj
            refine mm_iinc (v := nI a - nI 1) (L' := [(1, .int (nI a - nI 1)), (0, .ref (o)), (2, .long (lN (acc))), (4, .int (nI (b)))]) dX12_countAll_193 1 rfl (lc_m a) (by decide) rfl ?_
            refine mm_goto (tgt := 137) dX12_countAll_196 (by decide) ?_
            have hiw := iw_ok_up hiw (by omega)
            rw [← he] at hiw
            refine mn_sub [1, 0] rfl ?_
            exact ihF (by omega) _ _ _ _ _ hok hiw ha hf hF hA ht hd hS hI
          · rw [show w.1 + 1 - b = (w.1 + 1 - (b + 1)) + 1 from by omega] at he
            have hIb := (hI b (by omega)).2
            have cb := ct_it_le (w := w) (g := g) (T := T1) (a := a) (b := b)
            have nb := Nat.mul_le_mul cb hIb
            refine mm_lload_n dX12_countAll_157 rfl 2 rfl ?_
            refine mm_aload_n dX12_countAll_158 rfl 0 rfl ?_
            refine mm_iload_n dX12_countAll_159 rfl 1 rfl ?_
            refine mm_iload dX12_countAll_160 3 rfl ?_
            refine rm_callVr (As := [.int (nI (a)), .int (nI (b))]) (rest := [.long (lN (acc))]) (d2 := 4) dX12_countAll_162 ha zc_countItem zc_countItem_s rfl rfl rfl (Nat.le_of_ble_eq_true rfl) (Nat.le_of_ble_eq_true rfl) (by decide) (tm_countItem ha hx (by omega) (by omega)) ?_
            refine mn_i2l dX12_countAll_165 (by omega) ?_
            refine mm_aload_n dX12_countAll_166 rfl 0 rfl ?_
            refine rm_getA 20 dX12_countAll_167 ha zf_itemWays (by decide) rfl ?_
            refine mm_iload dX12_countAll_170 3 rfl ?_
            refine rm_iald (k := 20) dX12_countAll_172 ha rfl rfl rfl (show b < 25 from (by omega)) ?_
            refine mn_top (u := .int (nI (I1 (b)))) (congrArg Value.int ((hI (b) (by omega)).1)) ?_
            refine mn_i2l dX12_countAll_173 (by omega) ?_
            refine mn_lmul dX12_countAll_174 ?_
            refine mn_ladd dX12_countAll_175 ?_
            refine mm_lstore_n (L' := [(2, .long (lN ((acc) + ((ct_it w g T1 a b) * (I1 (b)))))), (0, .ref (o)), (1, .int (nI (a))), (4, .int (nI (b)))]) dX12_countAll_176 rfl (by decide) rfl ?_
            refine mn_iinc (m := 1) (L' := [(4, .int (nI (b + 1))), (2, .long (lN ((acc) + ((ct_it w g T1 a b) * (I1 (b)))))), (0, .ref (o)), (1, .int (nI (a)))]) dX12_countAll_177 (by decide) 3 rfl (by decide) rfl ?_
            refine mm_goto (tgt := 148) dX12_countAll_180 (by decide) ?_
            refine mn_sub [2, 3, 1, 0] rfl ?_
            exact ih (b + 1) _ (by omega) (by omega) (by omega) (by rw [← he]; show _ = acc + (ct_it w g T1 a b * I1 b + iw_s w g T1 I1 a (w.1 + 1 - (b + 1)) (b + 1)); omega) 
      refine mn_sub [2, 3, 1, 0] rfl ?_
      exact inn (w.1 + 1) (a + 1) 0 (by omega) (by omega) (by omega) (by rw [Nat.zero_add]; congr 1; omega) 
  have K120 : ∀ (F1 : Nat → Int32) (A1 : Nat → Nat → Int32) (T1 I1 : Nat → Nat) (h1 : mm_H), tb_ok w sg T1 0 → rm_at o F1 G A1 B h1 → rm_fr o h h1 → sc_F F F1 → (∀ j : Nat, j ≠ 19 → j ≠ 20 → A1 j = A j) → tb_at A1 T1 → tb_dg T1 → (∃ S : sc_S, sc_at F1 S) → iw_at A1 I1 → mm_V (zz_K l D aa b0) 5 yX12_countAll cX12_countAll 5 none 120 [(0, .ref (o))] [] h1 0 0 (fun r h' => r = none ∧ ∃ (F' : Nat → Int32) (A' : Nat → Nat → Int32) (T' I' : Nat → Nat) (S' : sc_S), rm_at o F' G A' B h' ∧ rm_fr o h h' ∧ sc_F F F' ∧ sc_at F' S' ∧ (∀ j : Nat, j ≠ 19 → j ≠ 20 → A' j = A j) ∧ tb_at A' T' ∧ tb_dg T' ∧ tb_ok w sg T' 0 ∧ iw_at A' I' ∧ iw_ok w g T' I' 0) := by
    intro F1 A1 T1 I1 h1 hok ha hf hF hA ht hd hS hI
    have hx := cx_A hF hA ht hx0
    have hw := hx.1
    have hn := hw.1
    refine mm_aload_n dX12_countAll_120 rfl 0 rfl ?_
    refine rm_getA 20 dX12_countAll_121 ha zf_itemWays (by decide) rfl ?_
    refine mm_aload_n dX12_countAll_124 rfl 0 rfl ?_
    refine rm_getI 15 dX12_countAll_125 ha zf_size (by decide) rfl rfl ?_
    refine mn_top (u := .int (nI (w.1))) (congrArg Value.int ((hx.1.2.1))) ?_
    refine mm_iconst (v := nI 1) dX12_countAll_128 (by decide) ?_
    refine rm_iast (k := 20) dX12_countAll_129 ha hf rfl rfl rfl (show w.1 < 25 from (by omega)) (fun h1 ha hf => ?_)
    have hA : ∀ j : Nat, j ≠ 19 → j ≠ 20 → (rm_up A1 20 (upd (A1 20) (w.1) (nI (1)))) j = A j := fun j h1 h2 => (rm_up_n h2).trans (hA j h1 h2)
    have hI := iw_at_up hI (i := w.1) (v := 1) (by decide)
    have ht : tb_at (rm_up A1 20 (upd (A1 20) (w.1) (nI (1)))) T1 := fun j hj => by rw [rm_up_n (by decide)]; exact ht j hj
    have hx := cx_A hF hA ht hx0
    refine mm_aload_n dX12_countAll_130 rfl 0 rfl ?_
    refine rm_getI 15 dX12_countAll_131 ha zf_size (by decide) rfl rfl ?_
    refine mn_top (u := .int (nI (w.1))) (congrArg Value.int ((hx.1.2.1))) ?_
    refine mm_iconst (v := nI 1) dX12_countAll_134 (by decide) ?_
    refine mm_isub dX12_countAll_135 ?_
    refine mm_istore_n (L' := [(1, .int ((nI (w.1)) - (nI (1)))), (0, .ref (o))]) dX12_countAll_136 rfl (by decide) rfl ?_
    refine mn_sub [1, 0] rfl ?_
    exact lpF w.1 (Nat.le_refl _) _ _ _ _ _ hok ⟨rm_up_s, fun a h1 h2 => by omega⟩ ha hf hF hA ht hd hS hI
  have lpK : ∀ (kr : Nat), kr ≤ 7 → ∀ (F1 : Nat → Int32) (A1 : Nat → Nat → Int32) (T1 I1 : Nat → Nat) (h1 : mm_H), tb_ok w sg T1 kr → rm_at o F1 G A1 B h1 → rm_fr o h h1 → sc_F F F1 → (∀ j : Nat, j ≠ 19 → j ≠ 20 → A1 j = A j) → tb_at A1 T1 → tb_dg T1 → (∃ S : sc_S, sc_at F1 S) → iw_at A1 I1 → mm_V (zz_K l D aa b0) 5 yX12_countAll cX12_countAll 5 none 3 [(0, .ref (o)), (1, .int (nI kr - nI 1))] [] h1 0 0 (fun r h' => r = none ∧ ∃ (F' : Nat → Int32) (A' : Nat → Nat → Int32) (T' I' : Nat → Nat) (S' : sc_S), rm_at o F' G A' B h' ∧ rm_fr o h h' ∧ sc_F F F' ∧ sc_at F' S' ∧ (∀ j : Nat, j ≠ 19 → j ≠ 20 → A' j = A j) ∧ tb_at A' T' ∧ tb_dg T' ∧ tb_ok w sg T' 0 ∧ iw_at A' I' ∧ iw_ok w g T' I' 0) := by
    intro kr
    induction kr with
    | zero =>
      intro hkr F1 A1 T1 I1 h1 hok ha hf hF hA ht hd hS hI
      refine mm_iload_n dX12_countAll_3 rfl 1 rfl ?_
      refine mm_if_lt (tgt := 120) dX12_countAll_4 (by decide) (fun c4 => ?_) (fun c4 => ?_)
      · refine mn_sub [0] rfl ?_
        exact K120 _ _ _ _ _ hok ha hf hF hA ht hd hS hI
      · exact absurd (by decide) c4
    | succ k ihK =>
      intro hkr F1 A1 T1 I1 h1 hok ha hf hF hA ht hd hS hI
      rw [lc_p k]
      have lpA : ∀ (n a : Nat), w.1 - a ≤ n → a ≤ w.1 → ∀ (F1 : Nat → Int32) (A1 : Nat → Nat → Int32) (T1 I1 : Nat → Nat) (h1 : mm_H), tb_ok w sg T1 (k + 1) → tb_pt w sg T1 k a (a + 1) → rm_at o F1 G A1 B h1 → rm_fr o h h1 → sc_F F F1 → (∀ j : Nat, j ≠ 19 → j ≠ 20 → A1 j = A j) → tb_at A1 T1 → tb_dg T1 → (∃ S : sc_S, sc_at F1 S) → iw_at A1 I1 → mm_V (zz_K l D aa b0) 5 yX12_countAll cX12_countAll 5 none 9 [(0, .ref (o)), (1, .int (nI (k))), (2, .int (nI (a)))] [] h1 0 0 (fun r h' => r = none ∧ ∃ (F' : Nat → Int32) (A' : Nat → Nat → Int32) (T' I' : Nat → Nat) (S' : sc_S), rm_at o F' G A' B h' ∧ rm_fr o h h' ∧ sc_F F F' ∧ sc_at F' S' ∧ (∀ j : Nat, j ≠ 19 → j ≠ 20 → A' j = A j) ∧ tb_at A' T' ∧ tb_dg T' ∧ tb_ok w sg T' 0 ∧ iw_at A' I' ∧ iw_ok w g T' I' 0) := by
        intro n
        induction n with
        | zero =>
          intro a hn1 ha1 F1 A1 T1 I1 h1 hok hpt ha hf hF hA ht hd hS hI
          have hx := cx_A hF hA ht hx0
          have hw := hx.1
          have hn := hw.1
          refine mm_iload_n dX12_countAll_9 rfl 2 rfl ?_
          refine mm_aload_n dX12_countAll_10 rfl 0 rfl ?_
          refine rm_getI 15 dX12_countAll_11 ha zf_size (by decide) rfl rfl ?_
          refine mn_top (u := .int (nI (w.1))) (congrArg Value.int ((hx.1.2.1))) ?_
          refine mn_icmp_ge (tgt := 114) dX12_countAll_14 (by decide) (by omega) (by omega) (fun c14 => ?_) (fun c14 => ?_)
          · have hok : tb_ok w sg T1 k := fun k' a' b' h0 h1 h2 h3 => by
              rcases Nat.lt_or_ge k k' with q | q
              · exact hok k' a' b' q h1 h2 h3
              · rw [show k' = k from by omega]; exact hpt a' b' (by omega) h2 h3
            refine mm_iinc (v := nI k - nI 1) (L' := [(1, .int (nI k - nI 1)), (0, .ref (o)), (2, .int (nI (a)))]) dX12_countAll_114 1 rfl (lc_m k) (by decide) rfl ?_
            refine mm_goto (tgt := 3) dX12_countAll_117 (by decide) ?_
            refine mn_sub [1, 0] rfl ?_
            exact ihK (by omega) _ _ _ _ _ hok ha hf hF hA ht hd hS hI
          · omega
        | succ n ihA =>
          intro a hn1 ha1 F1 A1 T1 I1 h1 hok hpt ha hf hF hA ht hd hS hI
          have hx := cx_A hF hA ht hx0
          have hw := hx.1
          have hn := hw.1
          refine mm_iload_n dX12_countAll_9 rfl 2 rfl ?_
          refine mm_aload_n dX12_countAll_10 rfl 0 rfl ?_
          refine rm_getI 15 dX12_countAll_11 ha zf_size (by decide) rfl rfl ?_
          refine mn_top (u := .int (nI (w.1))) (congrArg Value.int ((hx.1.2.1))) ?_
          refine mn_icmp_ge (tgt := 114) dX12_countAll_14 (by decide) (by omega) (by omega) (fun c14 => ?_) (fun c14 => ?_)
          · have hok : tb_ok w sg T1 k := fun k' a' b' h0 h1 h2 h3 => by
              rcases Nat.lt_or_ge k k' with q | q
              · exact hok k' a' b' q h1 h2 h3
              · rw [show k' = k from by omega]; exact hpt a' b' (by omega) h2 h3
            refine mm_iinc (v := nI k - nI 1) (L' := [(1, .int (nI k - nI 1)), (0, .ref (o)), (2, .int (nI (a)))]) dX12_countAll_114 1 rfl (lc_m k) (by decide) rfl ?_
            refine mm_goto (tgt := 3) dX12_countAll_117 (by decide) ?_
            refine mn_sub [1, 0] rfl ?_
            exact ihK (by omega) _ _ _ _ _ hok ha hf hF hA ht hd hS hI
          · refine mm_iload_n dX12_countAll_17 rfl 2 rfl ?_
            refine mm_iconst (v := nI 1) dX12_countAll_18 (by decide) ?_
            refine mn_iadd dX12_countAll_19 ?_
            refine mm_istore_n (L' := [(3, .int (nI ((a) + (1)))), (0, .ref (o)), (1, .int (nI (k))), (2, .int (nI (a)))]) dX12_countAll_20 rfl (by decide) rfl ?_
            have lpB : ∀ (m b : Nat), w.1 + 1 - b ≤ m → a < b ∧ b ≤ w.1 + 1 → ∀ (F1 : Nat → Int32) (A1 : Nat → Nat → Int32) (T1 I1 : Nat → Nat) (h1 : mm_H), tb_ok w sg T1 (k + 1) → tb_pt w sg T1 k a b → rm_at o F1 G A1 B h1 → rm_fr o h h1 → sc_F F F1 → (∀ j : Nat, j ≠ 19 → j ≠ 20 → A1 j = A j) → tb_at A1 T1 → tb_dg T1 → (∃ S : sc_S, sc_at F1 S) → iw_at A1 I1 → mm_V (zz_K l D aa b0) 5 yX12_countAll cX12_countAll 5 none 21 [(0, .ref (o)), (1, .int (nI (k))), (2, .int (nI (a))), (3, .int (nI (b)))] [] h1 0 0 (fun r h' => r = none ∧ ∃ (F' : Nat → Int32) (A' : Nat → Nat → Int32) (T' I' : Nat → Nat) (S' : sc_S), rm_at o F' G A' B h' ∧ rm_fr o h h' ∧ sc_F F F' ∧ sc_at F' S' ∧ (∀ j : Nat, j ≠ 19 → j ≠ 20 → A' j = A j) ∧ tb_at A' T' ∧ tb_dg T' ∧ tb_ok w sg T' 0 ∧ iw_at A' I' ∧ iw_ok w g T' I' 0) := by
              intro m
              induction m with
              | zero =>
                intro b hm hb1 F1 A1 T1 I1 h1 hok hpt ha hf hF hA ht hd hS hI
                have hx := cx_A hF hA ht hx0
                have hw := hx.1
                have hn := hw.1
                refine mm_iload_n dX12_countAll_21 rfl 3 rfl ?_
                refine mm_aload_n dX12_countAll_22 rfl 0 rfl ?_
                refine rm_getI 15 dX12_countAll_23 ha zf_size (by decide) rfl rfl ?_
                refine mn_top (u := .int (nI (w.1))) (congrArg Value.int ((hx.1.2.1))) ?_
                refine mn_icmp_gt (tgt := 108) dX12_countAll_26 (by decide) (by omega) (by omega) (fun c26 => ?_) (fun c26 => ?_)
                · refine mn_iinc (m := 1) (L' := [(2, .int (nI (a + 1))), (0, .ref (o)), (1, .int (nI (k))), (3, .int (nI (b)))]) dX12_countAll_108 (by decide) 2 rfl (by decide) rfl ?_
                  refine mm_goto (tgt := 9) dX12_countAll_111 (by decide) ?_
                  refine mn_sub [1, 2, 0] rfl ?_
                  exact ihA (a + 1) (by omega) (by omega) _ _ _ _ _ hok (fun a' b' h1 h2 h3 => hpt a' b' (by omega) h2 h3) ha hf hF hA ht hd hS hI
                · omega
              | succ m ihB =>
                intro b hm hb1 F1 A1 T1 I1 h1 hok hpt ha hf hF hA ht hd hS hI
                have hx := cx_A hF hA ht hx0
                have hw := hx.1
                have hn := hw.1
                refine mm_iload_n dX12_countAll_21 rfl 3 rfl ?_
                refine mm_aload_n dX12_countAll_22 rfl 0 rfl ?_
                refine rm_getI 15 dX12_countAll_23 ha zf_size (by decide) rfl rfl ?_
                refine mn_top (u := .int (nI (w.1))) (congrArg Value.int ((hx.1.2.1))) ?_
                refine mn_icmp_gt (tgt := 108) dX12_countAll_26 (by decide) (by omega) (by omega) (fun c26 => ?_) (fun c26 => ?_)
                · refine mn_iinc (m := 1) (L' := [(2, .int (nI (a + 1))), (0, .ref (o)), (1, .int (nI (k))), (3, .int (nI (b)))]) dX12_countAll_108 (by decide) 2 rfl (by decide) rfl ?_
                  refine mm_goto (tgt := 9) dX12_countAll_111 (by decide) ?_
                  refine mn_sub [1, 2, 0] rfl ?_
                  exact ihA (a + 1) (by omega) (by omega) _ _ _ _ _ hok (fun a' b' h1 h2 h3 => hpt a' b' (by omega) h2 h3) ha hf hF hA ht hd hS hI
                · obtain ⟨S, hs⟩ := hS
                  refine mm_bipush (v := nI 25) dX12_countAll_29 (by decide) ?_
                  refine mm_iload_n dX12_countAll_31 rfl 2 rfl ?_
                  refine mn_imul dX12_countAll_32 ?_
                  refine mm_iload_n dX12_countAll_33 rfl 3 rfl ?_
                  refine mn_iadd dX12_countAll_34 ?_
                  refine mm_istore (L' := [(4, .int (nI (((25) * (a)) + (b)))), (0, .ref (o)), (1, .int (nI (k))), (2, .int (nI (a))), (3, .int (nI (b)))]) dX12_countAll_35 (by decide) rfl ?_
                  refine mm_aload_n dX12_countAll_37 rfl 1 rfl ?_
                  refine mm_iconst (v := (-1)) dX12_countAll_38 (by decide) ?_
                  refine mn_top (u := .int (Int32.ofInt (-1))) (by decide) ?_
                  refine rm_callV (As := [.int (Int32.ofInt (-1))]) (rest := []) (d2 := 0) dX12_countAll_39 ha zc_beginScan zc_beginScan_s rfl rfl rfl (Nat.le_of_ble_eq_true rfl) (Nat.le_of_ble_eq_true rfl) (by decide) (tm_beginScan ha hs (by decide) (by decide)) (fun r h1 hq => ?_)
                  obtain ⟨rfl, F1, ha, hf', hs, hF'⟩ := hq
                  have hf := hf.tr hf'
                  have hF := hF.tr hF'
                  have hx := cx_A hF hA ht hx0
                  have hw := hx.1
                  have hn := hw.1
                  refine mm_aload_n dX12_countAll_42 rfl 1 rfl ?_
                  refine mm_iload_n dX12_countAll_43 rfl 2 rfl ?_
                  refine mm_iload_n dX12_countAll_44 rfl 3 rfl ?_
                  refine mm_iload_n dX12_countAll_45 rfl 4 rfl ?_
                  refine rm_callV (As := [.int (nI (k)), .int (nI (a)), .int (nI (b))]) (rest := []) (d2 := 3) dX12_countAll_46 ha zc_scanUnit zc_scanUnit_s rfl rfl rfl (Nat.le_of_ble_eq_true rfl) (Nat.le_of_ble_eq_true rfl) (by decide) (tm_scanUnit ha hx hs (by omega) (by omega) (by omega) rfl) (fun r h1 hq => ?_)
                  obtain ⟨rfl, F1, ha, hf', hs, hF'⟩ := hq
                  have hf := hf.tr hf'
                  have hF := hF.tr hF'
                  have hx := cx_A hF hA ht hx0
                  have hw := hx.1
                  have hn := hw.1
                  have e21 := sc_c0 hs
                  refine mm_aload_n dX12_countAll_49 rfl 1 rfl ?_
                  refine rm_getA 19 dX12_countAll_50 ha zf_ways (by decide) rfl ?_
                  refine mm_iload_n dX12_countAll_53 rfl 2 rfl ?_
                  refine mm_bipush (v := nI 25) dX12_countAll_54 (by decide) ?_
                  refine mn_imul dX12_countAll_56 ?_
                  refine mm_bipush (v := nI 25) dX12_countAll_57 (by decide) ?_
                  refine mn_imul dX12_countAll_59 ?_
                  refine mm_iload dX12_countAll_60 0 rfl ?_
                  refine mn_iadd dX12_countAll_62 ?_
                  refine mn_top (u := .int (nI (tb_ix 0 k a b))) (congrArg Value.int (congrArg nI (by unfold tb_ix; omega))) ?_
                  have hxb : tb_ix 0 k a b < 8750 := by unfold tb_ix; omega
                  refine mm_aload_n dX12_countAll_63 rfl 1 rfl ?_
                  refine rm_getI 21 dX12_countAll_64 ha zf_counted (by decide) rfl rfl ?_
                  refine mn_top (u := .int (nI (min (sm_o (sp_unit w sg T1 k a b)) 3000))) (congrArg Value.int ((e21))) ?_
                  refine rm_iast (k := 19) dX12_countAll_67 ha hf rfl rfl rfl (show tb_ix 0 k a b < 8750 from hxb) (fun h1 ha hf => ?_)
                  obtain ⟨v1, ev1⟩ : ∃ v, v = min (sm_o (sp_unit w sg T1 k a b)) 3000 := ⟨_, rfl⟩
                  rw [← ev1] at ha
                  obtain ⟨T2, eT2⟩ : ∃ T2, T2 = rm_up T1 (tb_ix 0 k a b) v1 := ⟨_, rfl⟩
                  have ht := tb_at_up ht (i := tb_ix 0 k a b) (v := v1) (by rw [ev1]; exact Nat.min_le_right _ _)
                  rw [← eT2] at ht
                  have hd := tb_dg_up hd (what := 0) (k := k) (a := a) (b := b) (v := v1) (by decide) (by omega) (by omega) (by omega) (by omega)
                  rw [← eT2] at hd
                  have hA : ∀ j : Nat, j ≠ 19 → j ≠ 20 → (rm_up A1 19 (upd (A1 19) (tb_ix 0 k a b) (nI v1))) j = A j := fun j h1 h2 => (rm_up_n h1).trans (hA j h1 h2)
                  have hI : iw_at (rm_up A1 19 (upd (A1 19) (tb_ix 0 k a b) (nI v1))) I1 := fun j hj => by rw [rm_up_n (by decide)]; exact hI j hj
                  generalize rm_up A1 19 (upd (A1 19) (tb_ix 0 k a b) (nI v1)) = A1 at ha ht hA hI
                  have hx := cx_A hF hA ht hx0
                  have hw := hx.1
                  have hn := hw.1
                  refine mm_aload_n dX12_countAll_68 rfl 1 rfl ?_
                  refine mm_iconst (v := (-1)) dX12_countAll_69 (by decide) ?_
                  refine mn_top (u := .int (Int32.ofInt (-1))) (by decide) ?_
                  refine rm_callV (As := [.int (Int32.ofInt (-1))]) (rest := []) (d2 := 0) dX12_countAll_70 ha zc_beginScan zc_beginScan_s rfl rfl rfl (Nat.le_of_ble_eq_true rfl) (Nat.le_of_ble_eq_true rfl) (by decide) (tm_beginScan ha hs (by decide) (by decide)) (fun r h1 hq => ?_)
                  obtain ⟨rfl, F1, ha, hf', hs, hF'⟩ := hq
                  have hf := hf.tr hf'
                  have hF := hF.tr hF'
                  have hx := cx_A hF hA ht hx0
                  have hw := hx.1
                  have hn := hw.1
                  refine mm_aload_n dX12_countAll_73 rfl 1 rfl ?_
                  refine mm_iload_n dX12_countAll_74 rfl 2 rfl ?_
                  refine mm_iload_n dX12_countAll_75 rfl 3 rfl ?_
                  refine mm_iload_n dX12_countAll_76 rfl 4 rfl ?_
                  refine rm_callV (As := [.int (nI (k)), .int (nI (a)), .int (nI (b))]) (rest := []) (d2 := 3) dX12_countAll_77 ha zc_scanPair zc_scanPair_s rfl rfl rfl (Nat.le_of_ble_eq_true rfl) (Nat.le_of_ble_eq_true rfl) (by decide) (tm_scanPair ha hx hs (by omega) (by omega) (by omega) rfl) (fun r h1 hq => ?_)
                  obtain ⟨rfl, F1, ha, hf', hs, hF'⟩ := hq
                  have hf := hf.tr hf'
                  have hF := hF.tr hF'
                  have hx := cx_A hF hA ht hx0
                  have hw := hx.1
                  have hn := hw.1
                  have e21 := sc_c0 hs
                  refine mm_aload_n dX12_countAll_80 rfl 1 rfl ?_
                  refine rm_getA 19 dX12_countAll_81 ha zf_ways (by decide) rfl ?_
                  refine mm_bipush (v := nI 7) dX12_countAll_84 (by decide) ?_
                  refine mm_iload_n dX12_countAll_86 rfl 2 rfl ?_
                  refine mn_iadd dX12_countAll_87 ?_
                  refine mm_bipush (v := nI 25) dX12_countAll_88 (by decide) ?_
                  refine mn_imul dX12_countAll_90 ?_
                  refine mm_bipush (v := nI 25) dX12_countAll_91 (by decide) ?_
                  refine mn_imul dX12_countAll_93 ?_
                  refine mm_iload dX12_countAll_94 0 rfl ?_
                  refine mn_iadd dX12_countAll_96 ?_
                  refine mn_top (u := .int (nI (tb_ix 1 k a b))) (congrArg Value.int (congrArg nI (by unfold tb_ix; omega))) ?_
                  have hxb : tb_ix 1 k a b < 8750 := by unfold tb_ix; omega
                  refine mm_aload_n dX12_countAll_97 rfl 1 rfl ?_
                  refine rm_getI 21 dX12_countAll_98 ha zf_counted (by decide) rfl rfl ?_
                  refine mn_top (u := .int (nI (min (sm_o (sp_pair w sg T2 k a b)) 3000))) (congrArg Value.int ((e21))) ?_
                  refine rm_iast (k := 19) dX12_countAll_101 ha hf rfl rfl rfl (show tb_ix 1 k a b < 8750 from hxb) (fun h1 ha hf => ?_)
                  obtain ⟨v2, ev2⟩ : ∃ v, v = min (sm_o (sp_pair w sg T2 k a b)) 3000 := ⟨_, rfl⟩
                  rw [← ev2] at ha
                  obtain ⟨T3, eT3⟩ : ∃ T3, T3 = rm_up T2 (tb_ix 1 k a b) v2 := ⟨_, rfl⟩
                  have ht := tb_at_up ht (i := tb_ix 1 k a b) (v := v2) (by rw [ev2]; exact Nat.min_le_right _ _)
                  rw [← eT3] at ht
                  have hd := tb_dg_up hd (what := 1) (k := k) (a := a) (b := b) (v := v2) (by decide) (by omega) (by omega) (by omega) (by omega)
                  rw [← eT3] at hd
                  have hA : ∀ j : Nat, j ≠ 19 → j ≠ 20 → (rm_up A1 19 (upd (A1 19) (tb_ix 1 k a b) (nI v2))) j = A j := fun j h1 h2 => (rm_up_n h1).trans (hA j h1 h2)
                  have hI : iw_at (rm_up A1 19 (upd (A1 19) (tb_ix 1 k a b) (nI v2))) I1 := fun j hj => by rw [rm_up_n (by decide)]; exact hI j hj
                  generalize rm_up A1 19 (upd (A1 19) (tb_ix 1 k a b) (nI v2)) = A1 at ha ht hA hI
                  obtain ⟨hpt, hok⟩ := tb_step (by omega) (by omega) (by omega) (by omega) hpt hok ev1 eT2 ev2 eT3
                  refine mn_iinc (m := 1) (L' := [(3, .int (nI (b + 1))), (4, .int (nI (((25) * (a)) + (b)))), (0, .ref (o)), (1, .int (nI (k))), (2, .int (nI (a)))]) dX12_countAll_102 (by decide) 4 rfl (by decide) rfl ?_
                  refine mm_goto (tgt := 21) dX12_countAll_105 (by decide) ?_
                  refine mn_sub [2, 3, 4, 0] rfl ?_
                  exact ihB (b + 1) (by omega) (by omega) _ _ _ _ _ hok hpt ha hf hF hA ht hd ⟨_, hs⟩ hI
            refine mn_sub [1, 2, 3, 0] rfl ?_
            exact lpB (w.1 + 1) (a + 1) (by omega) (by omega) _ _ _ _ _ hok hpt ha hf hF hA ht hd hS hI
      refine mm_iload_n dX12_countAll_3 rfl 1 rfl ?_
      refine mn_if_lt (tgt := 120) dX12_countAll_4 (by decide) (by omega) ?_
      refine mm_iconst (v := nI 0) dX12_countAll_7 (by decide) ?_
      refine mm_istore_n (L' := [(2, .int (nI (0))), (0, .ref (o)), (1, .int (nI (k)))]) dX12_countAll_8 rfl (by decide) rfl ?_
      refine mn_sub [1, 2, 0] rfl ?_
      exact lpA w.1 0 (by omega) (by omega) _ _ _ _ _ hok (fun a' b' h1 h2 h3 => by omega) ha hf hF hA ht hd hS hI
  refine mm_bipush (v := nI 6) dX12_countAll_0 (by decide) ?_
  refine mn_top (u := .int (nI 7 - nI 1)) (congrArg Value.int (by decide)) ?_
  refine mm_istore_n (L' := [(1, .int (nI 7 - nI 1)), (0, .ref (o))]) dX12_countAll_2 rfl (by decide) rfl ?_
  refine mn_sub [1, 0] rfl ?_
  exact lpK 7 (by omega) F A T I h (fun k' a b h0 h1 h2 h3 => by omega) ha rm_fr.rf sc_F.rf (fun _ _ _ => rfl) hx0.2.2.2.1 hd ⟨S, hs⟩ hI
