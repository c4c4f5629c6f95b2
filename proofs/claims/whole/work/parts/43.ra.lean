theorem cx_up {F : Nat → Int32} {A : Nat → Nat → Int32} {w : ro_w} {sg g : Nat} {T : Nat → Nat} {k : Nat} {x : Int32} (hk : k ≠ 12 ∧ k ≠ 13 ∧ k ≠ 15) (h : cx_at F A w sg g T) : cx_at (upd F k x) A w sg g T :=
  ⟨⟨h.1.1, (pk_un (Ne.symm hk.2.2)).trans h.1.2.1, h.1.2.2⟩, ⟨(pk_un (Ne.symm hk.1)).trans h.2.1.1, h.2.1.2⟩, ⟨(pk_un (Ne.symm hk.2.1)).trans h.2.2.1.1, h.2.2.1.2⟩, h.2.2.2⟩
theorem cx_39 {F : Nat → Int32} {A : Nat → Nat → Int32} {w : ro_w} {sg g : Nat} {T : Nat → Nat} {f : Nat → Int32} (h : cx_at F A w sg g T) : cx_at F (rm_up A 39 f) w sg g T := by
  obtain ⟨⟨h1, h2, h3⟩, h4, h5, h6, h7⟩ := h
  refine ⟨⟨h1, h2, ?_⟩, h4, h5, ?_, h7⟩
  · rw [rm_up_n (by decide), rm_up_n (by decide), rm_up_n (by decide)]; exact h3
  · unfold tb_at; rw [rm_up_n (by decide)]; exact h6
/-- readings below n stand in the arrays -/
def rs_ (A : Nat → Nat → Int32) (R : Nat → List Nat × (Nat → Nat)) (n : Nat) : Prop := ∀ q : Nat, q < n → fr_at A q (R q).1 ∧ ∀ i : Nat, i < 24 → A 38 (24 * q + i) = nI ((R q).2 i)
def vl_ (A : Nat → Nat → Int32) : Prop := ∃ V : Nat → Nat, ∀ j : Nat, j < 24000 → A 38 j = nI (V j)
theorem vl_eq {A A' : Nat → Nat → Int32} (e : A' 38 = A 38) (h : vl_ A) : vl_ A' := by unfold vl_; rw [e]; exact h
def ra_F (F F' : Nat → Int32) : Prop := ∀ j : Nat, (j < 21 ∨ 28 < j) → j ≠ 34 → j ≠ 40 → j ≠ 41 → F' j = F j
def ra_A (A A' : Nat → Nat → Int32) : Prop := ∀ j : Nat, j ≠ 19 → j ≠ 20 → (j < 29 ∨ 39 < j ∨ j = 34) → A' j = A j
theorem rs_tk {A A' : Nat → Nat → Int32} {R : Nat → List Nat × (Nat → Nat)} {r : Nat} (hA : tk_A r A A') (h : rs_ A R r) : rs_ A' R r := by
  intro q hq
  obtain ⟨⟨h1, h2, h3, h4⟩, h5⟩ := h q hq
  refine ⟨⟨(hA.2.2.1 q (by omega)).1.trans h1, (hA.2.2.1 q (by omega)).2.trans h2, fun i hi => ⟨(hA.2.1 _ (by omega)).trans (h3 i hi).1, (h3 i hi).2⟩, h4⟩, fun i hi => (hA.2.2.2 _ (by omega)).trans (h5 i hi)⟩
theorem rs_39 {A : Nat → Nat → Int32} {R : Nat → List Nat × (Nat → Nat)} {r : Nat} {f : Nat → Int32} (h : rs_ A R r) : rs_ (rm_up A 39 f) R r := by
  intro q hq
  unfold fr_at
  rw [rm_up_n (by decide), rm_up_n (by decide), rm_up_n (by decide), rm_up_n (by decide)]
  exact h q hq
theorem fr_ou {A : Nat → Nat → Int32} {r : Nat} {fs : List Nat} {vs : Nat → Nat} (h : ou_at A r fs vs) (hl : fs.length ≤ 100) (hf : ∀ f ∈ fs, f < 20) : fr_at A r fs := by
  refine ⟨h.1, h.2.1, fun i hi => ?_, by omega⟩
  have e : fs[i]? = some (fs.getD i 0) := by rw [List.getD_eq_getElem?_getD, List.getElem?_eq_getElem hi]; rfl
  refine ⟨h.2.2.1 i _ e, ?_⟩
  have := hf _ (List.mem_of_getElem? e)
  omega
theorem vl_tk {A A' : Nat → Nat → Int32} {r : Nat} {fs : List Nat} {vs : Nat → Nat} (hA : tk_A r A A') (ho : ou_at A' r fs vs) (h : vl_ A) : vl_ A' := by
  obtain ⟨V, h⟩ := h
  refine ⟨fun j => if j < 24 * r ∨ 24 * r + 24 ≤ j then V j else vs (j - 24 * r), fun j hj => ?_⟩
  by_cases hc : j < 24 * r ∨ 24 * r + 24 ≤ j
  · show _ = nI (if j < 24 * r ∨ 24 * r + 24 ≤ j then V j else vs (j - 24 * r))
    rw [if_pos hc, hA.2.2.2 j hc]; exact h j hj
  · show _ = nI (if j < 24 * r ∨ 24 * r + 24 ≤ j then V j else vs (j - 24 * r))
    rw [if_neg hc]
    have := ho.2.2.2 (j - 24 * r) (by omega)
    rw [show 24 * r + (j - 24 * r) = j from by omega] at this
    exact this
theorem sa_fin {A : Nat → Nat → Int32} {hi lo : List Nat} {r : Nat} (hl : hi.length + lo.length = r) (h1 : ∀ (i v : Nat), hi[i]? = some v → A 39 (r - i) = nI v) (h2 : sa_ A lo lo.length) : sa_ (rm_up A 39 (upd (A 39) lo.length (nI r))) (hi ++ r :: lo) (r + 1) := by
  intro i v hv
  rw [rm_up_s]
  rcases Nat.lt_trichotomy i hi.length with z | z | z
  · rw [List.getElem?_append_left z] at hv
    rw [pk_un (by omega), show r + 1 - 1 - i = r - i from by omega]
    exact h1 i v hv
  · rw [List.getElem?_append_right (by omega), show i - hi.length = 0 from by omega] at hv
    cases hv
    rw [show r + 1 - 1 - i = lo.length from by omega, pk_us]
  · rw [List.getElem?_append_right (by omega), show i - hi.length = (i - hi.length - 1) + 1 from by omega, List.getElem?_cons_succ] at hv
    have hb := (List.getElem?_eq_some_iff.mp hv).1
    rw [pk_un (by omega), show r + 1 - 1 - i = lo.length - 1 - (i - hi.length - 1) from by omega]
    exact h2 _ v hv
set_option maxRecDepth 100000 in
set_option maxHeartbeats 4000000 in
theorem tm_readAll {l : Launch} {D : va_G} {aa : Nat → ClassId} {b0 : Nat} {h : mm_H} {o : Nat} {F : Nat → Int32} {G : Nat → Int64} {A : Nat → Nat → Int32} {B : Nat → Nat → Int64} (ha : rm_at o F G A B h) {w : ro_w} {sg g : Nat} {T I : Nat → Nat} (hx0 : cx_at F A w sg g T) {S : sc_S} (hs : sc_at F S) (hd : tb_dg T) (hI : iw_at A I) (h34 : F 34 = nI 0) (hvl : vl_ A) : mm_V (zz_K l D aa b0) 7 yX12_readAll cX12_readAll 3 none 0 [(0, .ref (o))] [] h 0 0 (fun r h' => r = none ∧ ∃ (F' : Nat → Int32) (A' : Nat → Nat → Int32) (T' I' : Nat → Nat) (S' : sc_S), rm_at o F' G A' B h' ∧ rm_fr o h h' ∧ ra_F F F' ∧ ra_A A A' ∧ tc_ w sg g T' I' ∧ cx_at F' A' w sg g T' ∧ iw_at A' I' ∧ sc_at F' S' ∧ F' 34 = nI 0 ∧ vl_ A' ∧ F' 40 = nI (I' 0) ∧ (I' 0 ≤ 1000 → rs_ A' (rf_ w sg g T' I') (I' 0) ∧ sa_ A' (so_ (fun q => (rf_ w sg g T' I' q).1) (I' 0)) (I' 0))) := by
  refine mm_aload_n dX12_readAll_0 rfl 0 rfl ?_
  refine rm_callV (As := []) (rest := []) (d2 := 5) dX12_readAll_1 ha zc_countAll zc_countAll_s rfl rfl rfl (Nat.le_of_ble_eq_true rfl) (Nat.le_of_ble_eq_true rfl) (by decide) (tm_countAll ha hx0 hs hd hI) (fun r h1 hq => ?_)
  obtain ⟨rfl, F1, A1, T1, I1, S1, ha, hf, hF0, hs, hA0, ht, hd, hok, hI, hiw⟩ := hq
  have hx := cx_A hF0 hA0 ht hx0
  have hc : tc_ w sg g T1 I1 := ⟨hok, hd, hiw, hx.1.1, hx.2.2.1.2, fun j hj => (hI j hj).2⟩
  have hN := hc.2.2.2.2.2 0 (by decide)
  refine mm_aload_n dX12_readAll_4 rfl 0 rfl ?_
  refine mm_aload_n dX12_readAll_5 rfl 0 rfl ?_
  refine rm_getA 20 dX12_readAll_6 ha zf_itemWays (by decide) rfl ?_
  refine mm_iconst (v := nI 0) dX12_readAll_9 (by decide) ?_
  refine rm_iald (k := 20) dX12_readAll_10 ha rfl rfl rfl (show 0 < 25 from (by omega)) ?_
  refine mn_top (u := .int (nI (I1 (0)))) (congrArg Value.int ((hI (0) (by omega)).1)) ?_
  refine rm_putI 40 dX12_readAll_11 ha hf zf_readingMany (by decide) rfl rfl rfl rfl (fun h1 ha hf => ?_)
  have h40 : (upd F1 40 (nI (I1 (0)))) 40 = nI (I1 0) := pk_us
  have hF : ra_F F (upd F1 40 (nI (I1 (0)))) := fun j h1 h2 h3 h4 => (pk_un h3).trans (hF0 j h1)
  have hA : ra_A A A1 := fun j h1 h2 h3 => hA0 j h1 h2
  have hx : cx_at (upd F1 40 (nI (I1 (0)))) A1 w sg g T1 := cx_up (by decide) hx
  have hs : sc_at (upd F1 40 (nI (I1 (0)))) S1 := sc_tk (fun j h1 h2 => pk_un (by omega)) hs
  have h34 : (upd F1 40 (nI (I1 (0)))) 34 = nI 0 := (pk_un (by decide)).trans ((hF0 34 (by omega)).trans h34)
  have hvl : vl_ A1 := vl_eq (hA0 38 (by decide) (by decide)) hvl
  generalize upd F1 40 (nI (I1 (0))) = F1 at ha hF hx hs h34 h40
  obtain ⟨R, eR⟩ : ∃ R, R = rf_ w sg g T1 I1 := ⟨_, rfl⟩
  obtain ⟨Rf, eRf⟩ : ∃ Rf : Nat → List Nat, Rf = fun q => (R q).1 := ⟨_, rfl⟩
  have lp : ∀ (n r : Nat), I1 0 - r ≤ n → r ≤ I1 0 → ∀ (F1 : Nat → Int32) (A1 : Nat → Nat → Int32) (h1 : mm_H), rs_ A1 R r → sa_ A1 (so_ Rf r) r → rm_at o F1 G A1 B h1 → rm_fr o h h1 → ra_F F F1 → ra_A A A1 → cx_at F1 A1 w sg g T1 → iw_at A1 I1 → (∃ S : sc_S, sc_at F1 S) → F1 34 = nI 0 → vl_ A1 → F1 40 = nI (I1 0) → mm_V (zz_K l D aa b0) 7 yX12_readAll cX12_readAll 3 none 16 [(0, .ref (o)), (1, .int (nI (r)))] [] h1 0 0 (fun r h' => r = none ∧ ∃ (F' : Nat → Int32) (A' : Nat → Nat → Int32) (T' I' : Nat → Nat) (S' : sc_S), rm_at o F' G A' B h' ∧ rm_fr o h h' ∧ ra_F F F' ∧ ra_A A A' ∧ tc_ w sg g T' I' ∧ cx_at F' A' w sg g T' ∧ iw_at A' I' ∧ sc_at F' S' ∧ F' 34 = nI 0 ∧ vl_ A' ∧ F' 40 = nI (I' 0) ∧ (I' 0 ≤ 1000 → rs_ A' (rf_ w sg g T' I') (I' 0) ∧ sa_ A' (so_ (fun q => (rf_ w sg g T' I' q).1) (I' 0)) (I' 0))) := by
    intro n
    induction n with
    | zero =>
      intro r hn hr F1 A1 h1 hrs hsa ha hf hF hA hx hI hS h34 hvl h40
      obtain ⟨S, hs⟩ := hS
      refine mm_iload_n dX12_readAll_16 rfl 1 rfl ?_
      refine mm_aload_n dX12_readAll_17 rfl 0 rfl ?_
      refine rm_getI 40 dX12_readAll_18 ha zf_readingMany (by decide) rfl rfl ?_
      refine mn_top (u := .int (nI (I1 0))) (congrArg Value.int ((h40))) ?_
      refine mn_icmp_ge (tgt := 99) dX12_readAll_21 (by decide) (by omega) (by omega) (fun c21 => ?_) (fun c21 => ?_)
      · have er : r = I1 0 := by omega
        subst er
        exact mm_vret dX12_readAll_99 rfl (⟨rfl, F1, A1, T1, I1, S, ha, hf, hF, hA, hc, hx, hI, hs, h34, hvl, h40, fun _ => by subst eRf; subst eR; exact ⟨hrs, hsa⟩⟩)
      · omega
    | succ n ih =>
      intro r hn hr F1 A1 h1 hrs hsa ha hf hF hA hx hI hS h34 hvl h40
      obtain ⟨S, hs⟩ := hS
      refine mm_iload_n dX12_readAll_16 rfl 1 rfl ?_
      refine mm_aload_n dX12_readAll_17 rfl 0 rfl ?_
      refine rm_getI 40 dX12_readAll_18 ha zf_readingMany (by decide) rfl rfl ?_
      refine mn_top (u := .int (nI (I1 0))) (congrArg Value.int ((h40))) ?_
      refine mn_icmp_ge (tgt := 99) dX12_readAll_21 (by decide) (by omega) (by omega) (fun c21 => ?_) (fun c21 => ?_)
      · have er : r = I1 0 := by omega
        subst er
        exact mm_vret dX12_readAll_99 rfl (⟨rfl, F1, A1, T1, I1, S, ha, hf, hF, hA, hc, hx, hI, hs, h34, hvl, h40, fun _ => by subst eRf; subst eR; exact ⟨hrs, hsa⟩⟩)
      · refine mm_aload_n dX12_readAll_24 rfl 0 rfl ?_
        refine rm_getI 40 dX12_readAll_25 ha zf_readingMany (by decide) rfl rfl ?_
        refine mn_top (u := .int (nI (I1 0))) (congrArg Value.int ((h40))) ?_
        refine mm_sipush (v := nI 1000) dX12_readAll_28 (by decide) ?_
        refine mn_icmp_gt (tgt := 99) dX12_readAll_31 (by decide) (by omega) (by omega) (fun c31 => ?_) (fun c31 => ?_)
        · exact mm_vret dX12_readAll_99 rfl (⟨rfl, F1, A1, T1, I1, S, ha, hf, hF, hA, hc, hx, hI, hs, h34, hvl, h40, fun z => absurd z (by omega)⟩)
        · have hrr : r < I1 0 := by omega
          obtain ⟨r1, r2, r3, r4⟩ := rf_ok hc hrr
          refine mm_aload_n dX12_readAll_34 rfl 0 rfl ?_
          refine mm_iload_n dX12_readAll_35 rfl 1 rfl ?_
          refine rm_putI 41 dX12_readAll_36 ha hf zf_reading (by decide) rfl rfl rfl rfl (fun h1 ha hf => ?_)
          have hx : cx_at (upd F1 41 (nI (r))) A1 w sg g T1 := cx_up (by decide) hx
          have hs : sc_at (upd F1 41 (nI (r))) S := sc_tk (fun j h1 h2 => pk_un (by omega)) hs
          have h34 : (upd F1 41 (nI (r))) 34 = nI 0 := (pk_un (by decide)).trans h34
          have h40 : (upd F1 41 (nI (r))) 40 = nI (I1 0) := (pk_un (by decide)).trans h40
          have hF : ra_F F (upd F1 41 (nI (r))) := fun j h1 h2 h3 h4 => (pk_un h4).trans (hF j h1 h2 h3 h4)
          have h41 : (upd F1 41 (nI (r))) 41 = nI r := pk_us
          obtain ⟨V, hV⟩ : ∃ V : Nat → Nat, ∀ i : Nat, i < 24 → A1 38 (24 * r + i) = nI (V i) := by obtain ⟨V, hV⟩ := hvl; exact ⟨fun i => V (24 * r + i), fun i hi => hV _ (by omega)⟩
          refine mm_aload_n dX12_readAll_39 rfl 0 rfl ?_
          refine mm_iload_n dX12_readAll_40 rfl 1 rfl ?_
          refine rm_callV (As := [.int (nI (r))]) (rest := []) (d2 := 6) dX12_readAll_41 ha zc_takeOut zc_takeOut_s rfl rfl rfl (Nat.le_of_ble_eq_true rfl) (Nat.le_of_ble_eq_true rfl) (by decide) (tm_takeOut (V := V) hc ha hx hI hs h41 (by omega) h34 hV r1 r2) (fun r h1 hq => ?_)
          obtain ⟨rfl, F2, A2, S2, tk, hf', hF', hA', hemp⟩ := hq
          have hf := hf.tr hf'
          obtain ⟨ha, hx, hI, hs, ⟨-, -⟩, h34, -, hou⟩ := tk
          rw [hemp] at h34
          have h34 : F2 34 = nI 0 := h34
          have hou : ou_at A2 r (R r).1 (R r).2 := by rw [eR]; exact hou
          have h40 : F2 40 = nI (I1 0) := (hF' 40 (by omega) (by decide)).trans h40
          have hF : ra_F F F2 := fun j h1 h2 h3 h4 => (hF' j h1 h2).trans (hF j h1 h2 h3 h4)
          have hA : ra_A A A2 := fun j h1 h2 h3 => (hA'.1 j (by omega)).trans (hA j h1 h2 h3)
          have hvl : vl_ A2 := vl_tk hA' hou hvl
          have hfr : fr_at A2 r (R r).1 := fr_ou hou (by rw [eR]; exact r3) (by rw [eR]; exact r4)
          have hrs : rs_ A2 R (r + 1) := fun q hq => by rcases Nat.lt_or_ge q r with z | z; exact rs_tk hA' hrs q z; rw [show q = r from by omega]; exact ⟨hfr, hou.2.2.2⟩
          have hsa : sa_ A2 (so_ Rf r) r := by unfold sa_; rw [hA'.1 39 (by omega)]; exact hsa
          refine mm_iload_n dX12_readAll_44 rfl 1 rfl ?_
          refine mm_istore_n (L' := [(2, .int (nI (r))), (0, .ref (o)), (1, .int (nI (r)))]) dX12_readAll_45 rfl (by decide) rfl ?_
          have inn : ∀ (lo hi : List Nat) (A3 : Nat → Nat → Int32) (h2 : mm_H), so_ Rf (r + 1) = hi ++ ir_ Rf r lo → hi.length + lo.length = r → (∀ y ∈ lo, y < r) → (∀ (i v : Nat), hi[i]? = some v → A3 39 (r - i) = nI v) → sa_ A3 lo lo.length → rm_at o F2 G A3 B h2 → rm_fr o h h2 → ra_A A A3 → cx_at F2 A3 w sg g T1 → iw_at A3 I1 → vl_ A3 → rs_ A3 R (r + 1) → mm_V (zz_K l D aa b0) 7 yX12_readAll cX12_readAll 3 none 46 [(0, .ref (o)), (1, .int (nI (r))), (2, .int (nI (lo.length)))] [] h2 0 0 (fun r h' => r = none ∧ ∃ (F' : Nat → Int32) (A' : Nat → Nat → Int32) (T' I' : Nat → Nat) (S' : sc_S), rm_at o F' G A' B h' ∧ rm_fr o h h' ∧ ra_F F F' ∧ ra_A A A' ∧ tc_ w sg g T' I' ∧ cx_at F' A' w sg g T' ∧ iw_at A' I' ∧ sc_at F' S' ∧ F' 34 = nI 0 ∧ vl_ A' ∧ F' 40 = nI (I' 0) ∧ (I' 0 ≤ 1000 → rs_ A' (rf_ w sg g T' I') (I' 0) ∧ sa_ A' (so_ (fun q => (rf_ w sg g T' I' q).1) (I' 0)) (I' 0))) := by
            intro lo
            induction lo with
            | nil =>
              intro hi A3 h2 e0 hlen hlt hhi hlo ha hf hA hx hI hvl hrs
              have hlen0 : hi.length + 0 = r := hlen
              refine mm_iload_n dX12_readAll_46 rfl 2 rfl ?_
              refine mn_if_le (tgt := 86) dX12_readAll_47 (by decide) (by omega) (fun c47 => ?_) (fun c47 => ?_)
              · refine mm_aload_n dX12_readAll_86 rfl 0 rfl ?_
                refine rm_getA 39 dX12_readAll_87 ha zf_sorted (by decide) rfl ?_
                refine mm_iload_n dX12_readAll_90 rfl 2 rfl ?_
                refine mm_iload_n dX12_readAll_91 rfl 1 rfl ?_
                refine rm_iast (k := 39) dX12_readAll_92 ha hf rfl rfl rfl (show 0 < 1001 from (by omega)) (fun h2 ha hf => ?_)
                have hsa : sa_ (rm_up A3 39 (upd (A3 39) (0) (nI (r)))) (so_ Rf (r + 1)) (r + 1) := by rw [e0]; exact sa_fin hlen hhi hlo
                have hA : ra_A A (rm_up A3 39 (upd (A3 39) (0) (nI (r)))) := fun j h1 h2 h3 => (rm_up_n (by omega)).trans (hA j h1 h2 h3)
                have hI : iw_at (rm_up A3 39 (upd (A3 39) (0) (nI (r)))) I1 := fun j hj => by rw [rm_up_n (by decide)]; exact hI j hj
                have hvl : vl_ (rm_up A3 39 (upd (A3 39) (0) (nI (r)))) := vl_eq (rm_up_n (by decide)) hvl
                refine mn_iinc (m := 1) (L' := [(1, .int (nI (r + 1))), (0, .ref (o)), (2, .int (nI (0)))]) dX12_readAll_93 (by decide) 1 rfl (by decide) rfl ?_
                refine mm_goto (tgt := 16) dX12_readAll_96 (by decide) ?_
                refine mn_sub [1, 0] rfl ?_
                exact ih (r + 1) (by omega) (by omega) _ _ _ (rs_39 hrs) hsa ha hf hF hA (cx_39 hx) hI ⟨S2, hs⟩ h34 hvl h40
              · omega
            | cons x xs ihl =>
              intro hi A3 h2 e0 hlen hlt hhi hlo ha hf hA hx hI hvl hrs
              have hxr := hlt x List.mem_cons_self
              have hlen : hi.length + (xs.length + 1) = r := hlen
              have hx39 : A3 39 (xs.length + 1 - 1) = nI x := hlo 0 x rfl
              refine mm_iload_n dX12_readAll_46 rfl 2 rfl ?_
              refine mn_if_le (tgt := 86) dX12_readAll_47 (by decide) (by omega) (fun c47 => ?_) (fun c47 => ?_)
              · omega
              · refine mm_aload_n dX12_readAll_50 rfl 0 rfl ?_
                refine mm_iload_n dX12_readAll_51 rfl 1 rfl ?_
                refine mm_aload_n dX12_readAll_52 rfl 0 rfl ?_
                refine rm_getA 39 dX12_readAll_53 ha zf_sorted (by decide) rfl ?_
                refine mm_iload_n dX12_readAll_56 rfl 2 rfl ?_
                refine mm_iconst (v := nI 1) dX12_readAll_57 (by decide) ?_
                refine mn_isub dX12_readAll_58 (by omega) ?_
                refine rm_iald (k := 39) dX12_readAll_59 ha rfl rfl rfl (show (xs.length + 1) - (1) < 1001 from (by omega)) ?_
                refine mn_top (u := .int (nI (x))) (congrArg Value.int (hx39)) ?_
                refine rm_callVr (As := [.int (nI (r)), .int (nI (x))]) (rest := []) (d2 := 0) dX12_readAll_60 ha zc_isBefore zc_isBefore_s rfl rfl rfl (Nat.le_of_ble_eq_true rfl) (Nat.le_of_ble_eq_true rfl) (by decide) (tm_isBefore ha (hrs r (by omega)).1 (hrs x (by omega)).1 (by omega) (by omega)) ?_
                refine mn_ifB_eq (tgt := 86) dX12_readAll_63 (by decide) (fun c63 => ?_) (fun c63 => ?_)
                · have e0 : so_ Rf (r + 1) = hi ++ r :: x :: xs := by rw [e0]; unfold ir_; rw [if_neg (by rw [eRf, c63]; decide)]
                  refine mm_aload_n dX12_readAll_86 rfl 0 rfl ?_
                  refine rm_getA 39 dX12_readAll_87 ha zf_sorted (by decide) rfl ?_
                  refine mm_iload_n dX12_readAll_90 rfl 2 rfl ?_
                  refine mm_iload_n dX12_readAll_91 rfl 1 rfl ?_
                  refine rm_iast (k := 39) dX12_readAll_92 ha hf rfl rfl rfl (show xs.length + 1 < 1001 from (by omega)) (fun h2 ha hf => ?_)
                  have hsa : sa_ (rm_up A3 39 (upd (A3 39) (xs.length + 1) (nI (r)))) (so_ Rf (r + 1)) (r + 1) := by rw [e0]; exact sa_fin hlen hhi hlo
                  have hA : ra_A A (rm_up A3 39 (upd (A3 39) (xs.length + 1) (nI (r)))) := fun j h1 h2 h3 => (rm_up_n (by omega)).trans (hA j h1 h2 h3)
                  have hI : iw_at (rm_up A3 39 (upd (A3 39) (xs.length + 1) (nI (r)))) I1 := fun j hj => by rw [rm_up_n (by decide)]; exact hI j hj
                  have hvl : vl_ (rm_up A3 39 (upd (A3 39) (xs.length + 1) (nI (r)))) := vl_eq (rm_up_n (by decide)) hvl
                  refine mn_iinc (m := 1) (L' := [(1, .int (nI (r + 1))), (0, .ref (o)), (2, .int (nI (xs.length + 1)))]) dX12_readAll_93 (by decide) 1 rfl (by decide) rfl ?_
                  refine mm_goto (tgt := 16) dX12_readAll_96 (by decide) ?_
                  refine mn_sub [1, 0] rfl ?_
                  exact ih (r + 1) (by omega) (by omega) _ _ _ (rs_39 hrs) hsa ha hf hF hA (cx_39 hx) hI ⟨S2, hs⟩ h34 hvl h40
                · have e1 : ir_ Rf r (x :: xs) = x :: ir_ Rf r xs := if_pos (show bf_ (Rf r) (Rf x) = true by rw [eRf]; exact c63)
                  have e0 : so_ Rf (r + 1) = (hi ++ [x]) ++ ir_ Rf r xs := by rw [e0, e1]; exact (List.append_assoc hi [x] _).symm
                  refine mm_aload_n dX12_readAll_66 rfl 0 rfl ?_
                  refine rm_getA 39 dX12_readAll_67 ha zf_sorted (by decide) rfl ?_
                  refine mm_iload_n dX12_readAll_70 rfl 2 rfl ?_
                  refine mm_aload_n dX12_readAll_71 rfl 0 rfl ?_
                  refine rm_getA 39 dX12_readAll_72 ha zf_sorted (by decide) rfl ?_
                  refine mm_iload_n dX12_readAll_75 rfl 2 rfl ?_
                  refine mm_iconst (v := nI 1) dX12_readAll_76 (by decide) ?_
                  refine mn_isub dX12_readAll_77 (by omega) ?_
                  refine rm_iald (k := 39) dX12_readAll_78 ha rfl rfl rfl (show (xs.length + 1) - (1) < 1001 from (by omega)) ?_
                  refine mn_top (u := .int (nI (x))) (congrArg Value.int (hx39)) ?_
                  refine rm_iast (k := 39) dX12_readAll_79 ha hf rfl rfl rfl (show xs.length + 1 < 1001 from (by omega)) (fun h2 ha hf => ?_)
                  have hhi : ∀ (i v : Nat), (hi ++ [x])[i]? = some v → (rm_up A3 39 (upd (A3 39) (xs.length + 1) (nI (x)))) 39 (r - i) = nI v := fun i v hv => by
                    rw [rm_up_s]
                    by_cases z : i < hi.length
                    · rw [List.getElem?_append_left z] at hv; rw [pk_un (by omega)]; exact hhi i v hv
                    · rw [List.getElem?_append_right (by omega)] at hv; have hb := (List.getElem?_eq_some_iff.mp hv).1; have hi0 : i - hi.length = 0 := by simp at hb; omega
                      rw [hi0] at hv; cases hv; rw [show r - i = xs.length + 1 from by omega, pk_us]
                  have hlo : sa_ (rm_up A3 39 (upd (A3 39) (xs.length + 1) (nI (x)))) xs xs.length := fun i v hv => by have hb := (List.getElem?_eq_some_iff.mp hv).1; rw [rm_up_s, pk_un (by omega)]; have := hlo (i + 1) v hv; rw [show (x :: xs).length - 1 - (i + 1) = xs.length - 1 - i from by rw [List.length_cons]; omega] at this; exact this
                  have hA : ra_A A (rm_up A3 39 (upd (A3 39) (xs.length + 1) (nI (x)))) := fun j h1 h2 h3 => (rm_up_n (by omega)).trans (hA j h1 h2 h3)
                  have hI : iw_at (rm_up A3 39 (upd (A3 39) (xs.length + 1) (nI (x)))) I1 := fun j hj => by rw [rm_up_n (by decide)]; exact hI j hj
                  have hvl : vl_ (rm_up A3 39 (upd (A3 39) (xs.length + 1) (nI (x)))) := vl_eq (rm_up_n (by decide)) hvl
                  refine mn_idec (L' := [(2, .int (nI (xs.length))), (0, .ref (o)), (1, .int (nI (r)))]) dX12_readAll_80 2 rfl (by decide) rfl ?_
                  refine mm_goto (tgt := 46) dX12_readAll_83 (by decide) ?_
                  refine mn_sub [1, 2, 0] rfl ?_
                  exact ihl (hi ++ [x]) _ _ e0 (by rw [List.length_append]; show hi.length + 1 + xs.length = r; omega) (fun y hy => hlt y (List.mem_cons_of_mem _ hy)) hhi hlo ha hf hA (cx_39 hx) hI hvl (rs_39 hrs)
          refine mn_sub [1, 2, 0] rfl ?_
          have hll : (so_ Rf r).length = r := so_len Rf r
          have fin := inn (so_ Rf r) [] A2 h1 rfl (by rw [hll]; show 0 + r = r; omega) (fun y hy => so_lt Rf r y hy) (fun i v hv => by cases hv) (by rw [hll]; exact hsa) ha hf hA hx hI hvl hrs
          rw [hll] at fin
          exact fin
  refine mm_iconst (v := nI 0) dX12_readAll_14 (by decide) ?_
  refine mm_istore_n (L' := [(1, .int (nI (0))), (0, .ref (o))]) dX12_readAll_15 rfl (by decide) rfl ?_
  refine mn_sub [1, 0] rfl ?_
  exact lp (I1 0) 0 (by omega) (by omega) F1 A1 _ (fun q hq => by omega) (fun i v hv => by cases hv) ha hf hF hA hx hI ⟨S1, hs⟩ h34 hvl h40
