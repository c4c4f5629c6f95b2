/-! Reader: the search, turn by turn -/
theorem rem_ch {w : ro_w} {sg g ch : Nat} {ts : List gK} {fs vs : List Nat} {c last m : Nat} {r : List fR} (h : rm_ w sg g ts vs.length last = nd_ w sg g ts vs.length ch ++ rm_ w sg g ts vs.length ch) : rem_ w sg g ((ts, fs, vs, c, last, m) :: r) = (nd_ w sg g ts vs.length ch).map (pf_ (cso r) (ts, fs, vs, c, last, m)) ++ rem_ w sg g ((ts, fs, vs, c, ch, m) :: r) := by
  show (rm_ w sg g ts vs.length last).map _ ++ _ = _
  rw [h, List.map_append, List.append_assoc]
  rfl
theorem rem_0 {w : ro_w} {sg g : Nat} {φ : fR} {r : List fR} (h : rm_ w sg g φ.1 φ.2.2.1.length φ.2.2.2.2.1 = []) : rem_ w sg g (φ :: r) = rem_ w sg g r := by
  show (rm_ w sg g φ.1 φ.2.2.1.length φ.2.2.2.2.1).map _ ++ _ = _
  rw [h]
  rfl
theorem fm_ch {X X' : Nat → Nat → Int32} {w : ro_w} {sg g d m c last ch : Nat} {ts : List gK} {fs vs : List Nat} (h : fm_ X w sg g d (ts, fs, vs, c, last, m)) (e : ∀ b i, (5 ≤ b ∧ b ≤ 9 ∧ i < m) ∨ (b = 26 ∧ i < fs.length) ∨ (b = 27 ∧ i < vs.length) ∨ (28 ≤ b ∧ b ≤ 34 ∧ b ≠ 30 ∧ i = d) → X' b i = X b i) (h30 : X' 30 d = nI ch) : fm_ X' w sg g d (ts, fs, vs, c, ch, m) := by
  obtain ⟨⟨t, t1, t2, t3⟩, ⟨a1, a2, a3, a4, a5, a6⟩, b, c'⟩ := h
  have t2 : t < m := t2
  exact ⟨⟨t, (e _ _ (by omega)).trans t1, t2, ct_x t3 (fun b i h1 h2 h3 => e b i (by omega))⟩, ⟨(e _ _ (by omega)).trans a1, h30, (e _ _ (by omega)).trans a3, (e _ _ (by omega)).trans a4, (e _ _ (by omega)).trans a5, (e _ _ (by omega)).trans a6⟩, fun i hi => (e 26 i (Or.inr (Or.inl ⟨rfl, hi⟩))).trans (b i hi), fun i hi => (e 27 i (Or.inr (Or.inr (Or.inl ⟨rfl, hi⟩)))).trans (c' i hi)⟩
theorem F_mem {α : Type} {F G H : List α} (h : F ++ G = H) : (∀ x ∈ F, x ∈ H) ∧ ∀ x ∈ G, x ∈ H := by
  subst h
  exact ⟨fun x hx => List.mem_append_left _ hx, fun x hx => List.mem_append_right _ hx⟩
set_option maxRecDepth 100000 in
set_option maxHeartbeats 4000000 in
theorem cR_loop {l : Launch} {D : va_G} {aa : Nat → ClassId} {b0 : Nat} {h : mm_H} {o : Nat} {X : Nat → Nat → Int32} {Y : Nat → Nat → Int64} {rl : Option Nat} {w : ro_w} {sg a dt : Nat} {E U P H PL RS CO AL LI : Nat → Nat} {st : Bool} {Q : Option Value → mm_H → Prop} (hva : vA a) (hrk : rk_ w sg (gd_ sg)) (hd0 : ro_dot w 0 = false) (hk : ∀ (tv dv : Int32) (X1 : Nat → Nat → Int32) (Y1 : Nat → Nat → Int64) (h1 : mm_H), rE_ X X1 Y1 w sg a dt st E U P H PL RS CO AL LI → (∀ b i, b ≠ 21 → Y1 b i = Y b i) → cm_at o X1 Y1 rl h1 → cm_fr o h h1 → mm_V (zz_K l D aa b0) 4 yX5_read cX5_read 5 none 215 [(3, .int (tv)), (2, .int (dv)), (0, .ref (o + 3)), (1, .ref (o + a))] [] h1 0 0 Q) : ∀ (mm turn sv : Nat) (stk : List fR) (F : List gL) (X1 : Nat → Nat → Int32) (Y1 : Nat → Nat → Int64) (h1 : mm_H), turn + mm = 1000000 → rI_ X X1 Y1 w sg a dt st E U P H PL RS CO AL LI stk F → turn + stk.length ≤ 95 * F.length + 2 * sv + 1 → (sv + 1 ≤ stk.length ∨ sv = 0) → (0 < sv → ∃ (φ : fR) (r : List fR), stk = φ :: r ∧ rm_ w sg (gd_ sg) φ.1 φ.2.2.1.length φ.2.2.2.2.1 ≠ []) → stk.length ≤ 48 → (∀ b i, b ≠ 21 → Y1 b i = Y b i) → cm_at o X1 Y1 rl h1 → cm_fr o h h1 → mm_V (zz_K l D aa b0) 4 yX5_read cX5_read 5 none 61 [(3, .int (nI (turn))), (2, .int (dp_ stk)), (0, .ref (o + 3)), (1, .ref (o + a))] [] h1 0 0 Q := by
  have en : ∀ (tv dv : Int32) (X1 : Nat → Nat → Int32) (Y1 : Nat → Nat → Int64) (h1 : mm_H), rE_ X X1 Y1 w sg a dt st E U P H PL RS CO AL LI → (dv = -1 ∨ X1 20 4 = nI 1001) → (∀ b i, b ≠ 21 → Y1 b i = Y b i) → cm_at o X1 Y1 rl h1 → cm_fr o h h1 → mm_V (zz_K l D aa b0) 4 yX5_read cX5_read 5 none 61 [(3, .int (tv)), (2, .int (dv)), (0, .ref (o + 3)), (1, .ref (o + a))] [] h1 0 0 Q := by
    intro tv dv X1 Y1 h1 hE hor hY ha hf
    refine mm_iload_n dX5_read_61 rfl 0 rfl ?_
    refine mm_ldc (v := nI 1000000) dX5_read_62 zk_X5_90 ?_
    refine mm_icmp_ge (tgt := 215) dX5_read_64 (by decide) (fun c64 => ?_) (fun c64 => ?_)
    · exact hk tv dv X1 Y1 h1 hE hY ha hf
    · refine mm_iload_n dX5_read_67 rfl 1 rfl ?_
      refine mm_if_lt (tgt := 215) dX5_read_68 (by decide) (fun c68 => ?_) (fun c68 => ?_)
      · exact hk tv dv X1 Y1 h1 hE hY ha hf
      · refine mm_iload_n dX5_read_71 rfl 1 rfl ?_
        refine mm_bipush (v := nI 48) dX5_read_72 (by decide) ?_
        refine mm_icmp_ge (tgt := 215) dX5_read_74 (by decide) (fun c74 => ?_) (fun c74 => ?_)
        · exact hk tv dv X1 Y1 h1 hE hY ha hf
        · refine mm_aload_n dX5_read_77 rfl 2 rfl ?_
          refine cm_getR (b := 20) dX5_read_78 ha zr_X5_21 (by decide) rfl rfl rfl ?_
          rcases hor with hor | hor
          · subst hor
            exact absurd (by decide) c68
          · refine cm_callVr (As := []) (rest := []) (d2 := 0) dX5_read_81 ha (by decide) rfl zz_clX3 zc_X5_91 zs_X3_isMany rfl rfl (Nat.le_of_ble_eq_true rfl) (Nat.le_of_ble_eq_true rfl) (by decide) (cf_isMany ha hor (by decide)) ?_
            refine mn_ifB_ne (tgt := 215) dX5_read_84 (by decide) (fun c84 => ?_) (fun c84 => ?_)
            · exact hk tv dv X1 Y1 h1 hE hY ha hf
            · exact absurd c84 (by decide)
  intro mm
  induction mm with
  | zero =>
    intro turn sv stk F X1 Y1 h1 hmm hI hT hs1 hs2 h48 hY ha hf
    have hcp1 : ∀ x ∈ F, 1 ≤ x.2.2 := fun x hx => (Br_okk (sg := sg) (show (gd_ sg) ≤ 6 by have := hrk.2.1; omega) 0 (Nat.zero_le _) x ((F_mem hI.2.2.2.2.1).1 x hx)).2.1
    have hFl : F.length ≤ 1000 := Nat.le_trans (RR_len hcp1) hI.2.2.2.1.2.1
    cases stk with
    | nil =>
      obtain ⟨hrq, hst, -, hfo, hF, hpk, hrd⟩ := hI
      have hF : F = Br w sg (gd_ sg) 0 := by rw [← hF]; exact (List.append_nil F).symm
      subst hF
      exact en _ _ X1 Y1 h1 ⟨hrq, hst, hrd, fun z => (hpk z).1, Or.inl ⟨hfo, fun z => (hpk z).2⟩⟩ (Or.inl rfl) hY ha hf
    | cons φ r =>
      have h48 : r.length + 1 ≤ 48 := h48
      have hT : turn + (r.length + 1) ≤ 95 * F.length + 2 * sv + 1 := hT
      have hs1 : sv + 1 ≤ r.length + 1 ∨ sv = 0 := hs1
      omega
  | succ mm ih =>
    intro turn sv stk F X1 Y1 h1 hmm hI hT hs1 hs2 h48 hY ha hf
    have hcp1 : ∀ x ∈ F, 1 ≤ x.2.2 := fun x hx => (Br_okk (sg := sg) (show (gd_ sg) ≤ 6 by have := hrk.2.1; omega) 0 (Nat.zero_le _) x ((F_mem hI.2.2.2.2.1).1 x hx)).2.1
    have hFl : F.length ≤ 1000 := Nat.le_trans (RR_len hcp1) hI.2.2.2.1.2.1
    cases stk with
    | nil =>
      obtain ⟨hrq, hst, -, hfo, hF, hpk, hrd⟩ := hI
      have hF : F = Br w sg (gd_ sg) 0 := by rw [← hF]; exact (List.append_nil F).symm
      subst hF
      exact en _ _ X1 Y1 h1 ⟨hrq, hst, hrd, fun z => (hpk z).1, Or.inl ⟨hfo, fun z => (hpk z).2⟩⟩ (Or.inl rfl) hY ha hf
    | cons φ r =>
      have h48 : r.length + 1 ≤ 48 := h48
      have hT : turn + (r.length + 1) ≤ 95 * F.length + 2 * sv + 1 := hT
      have hs1 : sv + 1 ≤ r.length + 1 ∨ sv = 0 := hs1
      obtain ⟨ts, fs, vs, c, last, m⟩ := φ
      obtain ⟨hrq, hst, ⟨⟨hfm, hfw, hm1⟩, hmon, hsf⟩, hfo, hF, hpk, hrd⟩ := id hI
      obtain ⟨⟨t, ht, htm, hct⟩, -⟩ := id hfm
      have htm : t < m := htm
      have hm1 : 1 ≤ m := hm1
      have hp : vs.length < w.1 := hfw.2.2.1
      have h24 := hrk.1
      have hl18 : last ≤ 18 := hfw.2.2.2.2.1
      have hR1 := hfo.2.1
      have hge := vA_ge hva
      show mm_V (zz_K l D aa b0) 4 yX5_read cX5_read 5 none 61 [(3, .int (nI (turn))), (2, .int (nI (r.length))), (0, .ref (o + 3)), (1, .ref (o + a))] [] h1 0 0 Q
      refine mm_iload_n dX5_read_61 rfl 0 rfl ?_
      refine mm_ldc (v := nI 1000000) dX5_read_62 zk_X5_90 ?_
      refine mn_icmp_ge (tgt := 215) dX5_read_64 (by decide) (by omega) (by omega) (fun c64 => ?_) (fun c64 => ?_)
      · omega
      · refine mm_iload_n dX5_read_67 rfl 1 rfl ?_
        refine mn_if_lt (tgt := 215) dX5_read_68 (by decide) (by omega) ?_
        refine mm_iload_n dX5_read_71 rfl 1 rfl ?_
        refine mm_bipush (v := nI 48) dX5_read_72 (by decide) ?_
        refine mn_icmp_ge (tgt := 215) dX5_read_74 (by decide) (by omega) (by omega) (fun c74 => ?_) (fun c74 => ?_)
        · omega
        · refine mm_aload_n dX5_read_77 rfl 2 rfl ?_
          refine cm_getR (b := 20) dX5_read_78 ha zr_X5_21 (by decide) rfl rfl rfl ?_
          refine cm_callVr (As := []) (rest := []) (d2 := 0) dX5_read_81 ha (by decide) rfl zz_clX3 zc_X5_91 zs_X3_isMany rfl rfl (Nat.le_of_ble_eq_true rfl) (Nat.le_of_ble_eq_true rfl) (by decide) (cf_isMany ha hfo.1 (by omega)) ?_
          refine mn_ifB_ne (tgt := 215) dX5_read_84 (by decide) (fun c84 => ?_) (fun c84 => ?_)
          · exact absurd (of_decide_eq_true c84) (by omega)
          · refine mm_aload_n dX5_read_87 rfl 2 rfl ?_
            refine mm_aload_n dX5_read_88 rfl 3 rfl ?_
            refine mm_aload_n dX5_read_89 rfl 2 rfl ?_
            refine cm_getR (b := 28) dX5_read_90 ha zr_X5_32 (by decide) rfl rfl rfl ?_
            refine mm_iload_n dX5_read_93 rfl 1 rfl ?_
            refine cm_iald (i := r.length) dX5_read_94 ha (by decide) rfl (by omega) (by decide) ?_
            refine mn_top (u := .int (nI (t))) (congrArg Value.int (ht)) ?_
            refine mm_aload_n dX5_read_95 rfl 2 rfl ?_
            refine cm_getR (b := 29) dX5_read_96 ha zr_X5_36 (by decide) rfl rfl rfl ?_
            refine mm_iload_n dX5_read_99 rfl 1 rfl ?_
            refine cm_iald (i := r.length) dX5_read_100 ha (by decide) rfl (by omega) (by decide) ?_
            refine mn_top (u := .int (nI (vs.length))) (congrArg Value.int (hfm.2.1.1)) ?_
            refine mm_aload_n dX5_read_101 rfl 2 rfl ?_
            refine cm_getR (b := 30) dX5_read_102 ha zr_X5_39 (by decide) rfl rfl rfl ?_
            refine mm_iload_n dX5_read_105 rfl 1 rfl ?_
            refine cm_iald (i := r.length) dX5_read_106 ha (by decide) rfl (by omega) (by decide) ?_
            refine mn_top (u := .int (nI (last))) (congrArg Value.int (hfm.2.1.2.1)) ?_
            refine cm_callV (As := [.ref (o + a), .int (nI (t)), .int (nI (vs.length)), .int (nI (last))]) (rest := []) (d2 := 2) dX5_read_107 ha (by decide) rfl zz_clX5 zc_X5_95 zs_X5_nextChoice rfl rfl (Nat.le_of_ble_eq_true rfl) (Nat.le_of_ble_eq_true rfl) (by decide) (cR_next ha hva hrq hrk hct hfw.1 hfw.2.1 hp hl18 hfw.2.2.2.1) (fun r h1 hq => ?_)
            obtain ⟨hh1, ch, rfl, hcase⟩ := hq
            subst hh1
            rcases hcase with ⟨h0, hall⟩ | ⟨hcm, hl, hne, hbt⟩
            · subst h0
              have hrm : rm_ w sg (gd_ sg) ts vs.length last = [] := rm_none hall
              have hs0 : sv = 0 := by
                rcases Nat.eq_zero_or_pos sv with z | z
                · exact z
                · obtain ⟨φ, r2, e, hne⟩ := hs2 z; have e1 := List.head_eq_of_cons_eq e; subst e1; exact absurd hrm hne
              have hI2 : rI_ X X1 Y1 w sg a dt st E U P H PL RS CO AL LI r F := ⟨hrq, hst, hsf, hfo, by rw [← hF, rem_0 hrm], hpk, hrd⟩
              refine mm_istore (L' := [(4, .int (nI (0))), (3, .int (nI (turn))), (2, .int (nI (r.length))), (0, .ref (o + 3)), (1, .ref (o + a))]) dX5_read_110 (by decide) rfl ?_
              refine mm_iload dX5_read_112 0 rfl ?_
              refine mn_if_ne (tgt := 123) dX5_read_114 (by decide) (by omega) (fun c114 => ?_) (fun c114 => ?_)
              · exact absurd rfl c114
              · cases r with
                | nil =>
                  show mm_V (zz_K l D aa b0) 4 yX5_read cX5_read 5 none 117 [(4, .int (nI (0))), (3, .int (nI (turn))), (2, .int (nI (0))), (0, .ref (o + 3)), (1, .ref (o + a))] [] h1 0 0 Q
                  refine mm_iinc (v := (-1)) (L' := [(2, .int ((-1))), (4, .int (nI (0))), (3, .int (nI (turn))), (0, .ref (o + 3)), (1, .ref (o + a))]) dX5_read_117 2 rfl (by decide) (by decide) rfl ?_
                  refine mm_goto (tgt := 209) dX5_read_120 (by decide) ?_
                  refine mn_iinc (m := 1) (L' := [(3, .int (nI (turn + 1))), (2, .int ((-1))), (4, .int (nI (0))), (0, .ref (o + 3)), (1, .ref (o + a))]) dX5_read_209 (by decide) 2 rfl (by decide) rfl ?_
                  refine mm_goto (tgt := 61) dX5_read_212 (by decide) ?_
                  refine mn_sub [0, 1, 3, 4] rfl ?_
                  exact ih (turn + 1) 0 [] F X1 Y1 _ (by omega) hI2 (by show turn + 1 + 0 ≤ _; have hT : turn + (0 + 1) ≤ _ := hT; omega) (Or.inr rfl) (fun z => by omega) (by show 0 ≤ 48; omega) hY ha hf
                | cons ψ r2 =>
                  show mm_V (zz_K l D aa b0) 4 yX5_read cX5_read 5 none 117 [(4, .int (nI (0))), (3, .int (nI (turn))), (2, .int (nI (r2.length + 1))), (0, .ref (o + 3)), (1, .ref (o + a))] [] h1 0 0 Q
                  refine mn_idec (L' := [(2, .int (nI (r2.length))), (4, .int (nI (0))), (3, .int (nI (turn))), (0, .ref (o + 3)), (1, .ref (o + a))]) dX5_read_117 2 rfl (by decide) rfl ?_
                  refine mm_goto (tgt := 209) dX5_read_120 (by decide) ?_
                  refine mn_iinc (m := 1) (L' := [(3, .int (nI (turn + 1))), (2, .int (nI (r2.length))), (4, .int (nI (0))), (0, .ref (o + 3)), (1, .ref (o + a))]) dX5_read_209 (by decide) 2 rfl (by decide) rfl ?_
                  refine mm_goto (tgt := 61) dX5_read_212 (by decide) ?_
                  refine mn_sub [0, 1, 3, 4] rfl ?_
                  exact ih (turn + 1) 0 (ψ :: r2) F X1 Y1 _ (by omega) hI2 (by show turn + 1 + (r2.length + 1) ≤ _; have hT : turn + (r2.length + 1 + 1) ≤ _ := hT; omega) (Or.inr rfl) (fun z => by omega) (by show r2.length + 1 ≤ 48; have h48 : r2.length + 1 + 1 ≤ 48 := h48; omega) hY ha hf
            · have hc18 := cl_pos hcm
              have hnx := rm_next hcm hl hbt
              have hFr := hF
              rw [rem_ch hnx, ← List.append_assoc] at hFr
              have hB : ∀ x ∈ (nd_ w sg (gd_ sg) ts vs.length ch).map (pf_ (cso r) (ts, fs, vs, c, last, m)), x ∈ Br w sg (gd_ sg) 0 := fun x hx => (F_mem hFr).1 x (List.mem_append_right _ hx)
              obtain ⟨k, f, hkf, hh, hk6, hgf, hwt, hle, hfl, hm121, hr48, hm6, hlr, hnd⟩ := turn_c hrk (φ := (ts, fs, vs, c, last, m)) (r := r) hfw hcm hne hB
              obtain ⟨e1, hp2, hwS, hor⟩ := turn_s hrk (cs := cso r) hfw hwt hm6 hlr hnd hB
              have hm121 : m + (ts_ sg k f).length ≤ 121 := hm121
              have hle : vs.length + (iv_ sg k f).length ≤ w.1 := hle
              have hfl : fs.length < 48 := hfl
              refine mm_istore (L' := [(4, .int (nI (ch))), (3, .int (nI (turn))), (2, .int (nI (r.length))), (0, .ref (o + 3)), (1, .ref (o + a))]) dX5_read_110 (by decide) rfl ?_
              refine mm_iload dX5_read_112 0 rfl ?_
              refine mn_if_ne (tgt := 123) dX5_read_114 (by decide) (by omega) (fun c114 => ?_) (fun c114 => ?_)
              · refine mm_aload_n dX5_read_123 rfl 3 rfl ?_
                refine mm_iload_n dX5_read_124 rfl 2 rfl ?_
                refine cm_callV (As := [.int (nI (r.length))]) (rest := []) (d2 := 0) dX5_read_125 ha (by decide) rfl zz_clX5 zc_X5_99 zs_X5_restore rfl rfl (Nat.le_of_ble_eq_true rfl) (Nat.le_of_ble_eq_true rfl) (by decide) (cR_restore ha (by omega)) (fun r h1 hq => ?_)
                obtain ⟨rfl, ha, hf'⟩ := hq
                have hf := hf.tr hf'
                refine mm_aload_n dX5_read_128 rfl 3 rfl ?_
                refine cm_getR (b := 30) dX5_read_129 ha zr_X5_39 (by decide) rfl rfl rfl ?_
                refine mm_iload_n dX5_read_132 rfl 2 rfl ?_
                refine mm_iload dX5_read_133 0 rfl ?_
                refine cm_iast (i := r.length) dX5_read_135 ha hf (by decide) rfl (by omega) (by decide) (fun h1 ha hf => ?_)
                obtain ⟨X2, ha, htk, hm, hdr, h30, hsm⟩ := rs_pack ha hfm ht
                have hm : X2 4 6 = nI m := hm
                have hdr : dr_ X2 fs vs c := hdr
                have hct2 := ct_x hct (fun b i h1 h2 h3 => hsm b i (by omega) (by omega) (by omega) (by omega))
                have hrq2 := rq_x hrq hva (fun b i z => hsm b i (by omega) (by omega) (by omega) (by omega))
                refine mm_aload_n dX5_read_136 rfl 3 rfl ?_
                refine mm_aload_n dX5_read_137 rfl 4 rfl ?_
                refine mm_iload dX5_read_138 0 rfl ?_
                refine cm_callV (As := [.ref (o + a), .int (nI (ch))]) (rest := []) (d2 := 3) dX5_read_140 ha (by decide) rfl zz_clX5 zc_X5_102 zs_X5_choose rfl rfl (Nat.le_of_ble_eq_true rfl) (Nat.le_of_ble_eq_true rfl) (by decide) (cR_choose (ts := ts) (k := k) (f := f) ha hva hrq2 hm (by omega) htk hct2 htm hdr hfl (by omega) hk6 hc18 hkf hh hgf hp hfw.2.2.2.1 hfw.2.1) (fun r h1 hq => ?_)
                obtain ⟨rfl, X3, t3, ha, hf', hrx3, htk, hm, htm3, hct3, hdr⟩ := hq
                have hf := hf.tr hf'
                have hrq3 := hrx3.q hm1 hva hrq2
                refine mm_aload_n dX5_read_143 rfl 3 rfl ?_
                refine mm_aload_n dX5_read_144 rfl 4 rfl ?_
                refine cm_getR (b := a + 3) dX5_read_145 ha zr_X5_70 (vA_lt hva 0 (by decide)) (vA_0 hva) rfl rfl ?_
                refine cm_callV (As := [.ref (o + (a + 3))]) (rest := []) (d2 := 2) dX5_read_148 ha (by decide) rfl zz_clX5 zc_X5_105 zs_X5_settle rfl rfl (Nat.le_of_ble_eq_true rfl) (Nat.le_of_ble_eq_true rfl) (by decide) (cR_settle ha hva hrq3 hm (by omega) htk hct3 htm3 hdr (by rw [List.length_append]; omega) hwt (by rw [List.length_append, List.length_append]; exact hlr)) (fun r h1 hq => ?_)
                obtain ⟨rfl, X4, t4, ha, hf', hrx4, htk, hm, htm4, hct4, hdr⟩ := hq
                have hf := hf.tr hf'
                have hrq4 := hrx4.q (by omega) hva hrq3
                have hrx := hrx3.tr hrx4 (by omega) (by rw [List.length_append]; omega) (by rw [List.length_append]; omega)
                have hsm4 : ∀ b i, ¬ (b = 3 ∧ i = 10) → ¬ (b = 4 ∧ i = 6) → ¬ (b = 25 ∧ 2 ≤ i ∧ i ≤ 5) → ¬ (b = 30 ∧ i = r.length) → ((5 ≤ b ∧ b ≤ 9 ∧ i < m) ∨ (b = 26 ∧ i < fs.length) ∨ (b = 27 ∧ i < vs.length) ∨ b < 3 ∨ b = 3 ∨ b = 4 ∨ (10 ≤ b ∧ b ≤ 25) ∨ 27 < b) → X4 b i = X1 b i := fun b i n1 n2 n3 n4 z => (hrx b i (by omega)).trans (hsm b i n1 n2 n3 n4)
                have hdr : dr_ X4 (nf_ w sg (ts, fs, vs, c, last, m) k f).2.1 (nf_ w sg (ts, fs, vs, c, last, m) k f).2.2.1 (nf_ w sg (ts, fs, vs, c, last, m) k f).2.2.2.1 := hdr
                have hct4 : ct_ X4 w sg (gd_ sg) (nf_ w sg (ts, fs, vs, c, last, m) k f).1 t4 := hct4
                have htm4 : t4 < (nf_ w sg (ts, fs, vs, c, last, m) k f).2.2.2.2.2 := htm4
                have hm : X4 4 6 = nI (nf_ w sg (ts, fs, vs, c, last, m) k f).2.2.2.2.2 := hm
                have hnm : (nf_ w sg (ts, fs, vs, c, last, m) k f).2.2.2.2.2 = m + (ts_ sg k f).length := rfl
                have hnl : fs.length ≤ (nf_ w sg (ts, fs, vs, c, last, m) k f).2.1.length := by show fs.length ≤ ((fs ++ [f]) ++ _).length; rw [List.length_append, List.length_append]; omega
                have hnv : vs.length ≤ (nf_ w sg (ts, fs, vs, c, last, m) k f).2.2.1.length := by show vs.length ≤ ((vs ++ iv_ sg k f) ++ _).length; rw [List.length_append, List.length_append]; omega
                generalize (nf_ w sg (ts, fs, vs, c, last, m) k f) = ψ at *
                have hfm4 : fm_ X4 w sg (gd_ sg) r.length (ts, fs, vs, c, ch, m) := fm_ch hfm (fun b i z => hsm4 b i (by omega) (by omega) (by omega) (by omega) (by omega)) ((hrx 30 r.length (by omega)).trans h30)
                have hsf4 : sf_ X4 w sg (gd_ sg) r := sf_x (m := m) (n := fs.length) (p := vs.length) hsf hmon (fun b i z => hsm4 b i (by omega) (by omega) (by omega) (by omega) (by omega))
                have hfw4 : fw_ w sg (gd_ sg) r.length (ts, fs, vs, c, ch, m) := ⟨hfw.1, hfw.2.1, hfw.2.2.1, hfw.2.2.2.1, hc18.2, hfw.2.2.2.2.2⟩
                have hst4 : X4 a 8 = nI (Bool.toNat st) := (hsm4 a 8 (by omega) (by omega) (by omega) (by omega) (by omega)).trans hst
                have hfo4 : fo2 X4 Y1 (RR F) := fo2_x hfo (fun b i z => hsm4 b i (by omega) (by omega) (by omega) (by omega) (by omega))
                have hrd4 : rdx a st X X4 := hrd.tr (fun b i z => hsm4 b i (by omega) (by omega) (by omega) (by omega) (by omega))
                have hpk4 : st = true → X4 a 7 = nI 0 ∧ (F = [] ∨ ∃ y, bo_ F = some y ∧ ps_ X4 a w y) := fun z => ⟨(hsm4 a 7 (by omega) (by omega) (by omega) (by omega) (by omega)).trans (hpk z).1, (hpk z).2.elim Or.inl (fun ⟨y, h1, h2⟩ => Or.inr ⟨y, h1, ps_x h2 (fun b i z => hsm4 b i (by omega) (by omega) (by omega) (by omega) (by omega))⟩)⟩
                have hw4 := hrq4.2.2.1
                rcases hor with ⟨l1, l2, l3, l4⟩ | ⟨n1, n2, n3, n4⟩
                · rw [l1] at hct4
                  have ht0 : t4 = 0 := hct4
                  subst ht0
                  rw [l3] at hFr
                  have hlB : (cso r ++ [ch], (ψ.2.1, ψ.2.2.1), ψ.2.2.2.1) ∈ Br w sg (gd_ sg) 0 := (F_mem hFr).1 _ (List.mem_append_right _ (List.mem_singleton.mpr rfl))
                  have o1 := Br_ok2' (sg := sg) (show (gd_ sg) ≤ 6 by have := hrk.2.1; omega) 0 (Nat.zero_le _) _ hlB
                  have o2 := Br_okk (sg := sg) (show (gd_ sg) ≤ 6 by have := hrk.2.1; omega) 0 (Nat.zero_le _) _ hlB
                  have hcl : (cso r ++ [ch]).length = r.length + 1 := by rw [List.length_append, cso_len]; rfl
                  have hsn : sn_ ψ.2.1 ≤ 127 := by have h1 := o2.2.2; have h1 : sn_ ψ.2.1 + 3 * 0 ≤ 3 * ψ.2.2.1.length := h1; omega
                  have hlk : lk_ (cso r ++ [ch], (ψ.2.1, ψ.2.2.1), ψ.2.2.2.1) := ⟨by show (cso r ++ [ch]).length ≤ 48; omega, fun i hi => by
                    have hi : i < (cso r ++ [ch]).length := hi
                    show (cso r ++ [ch]).getD i 0 < 32
                    have := sf_fw (stk := (ts, fs, vs, c, ch, m) :: r) ⟨⟨hfm4, hfw4, hm1⟩, hmon, hsf4⟩ i (by rw [cso_cons]; exact hi)
                    rw [cso_cons] at this
                    have this : (cso r ++ [ch]).getD i 0 ≤ 18 := this
                    omega, hsn⟩
                  have hcs : ∀ i, i < (cso r ++ [ch]).length → X4 30 i = nI ((cso r ++ [ch]).getD i 0) := fun i hi => by
                    have := sf_cs (stk := (ts, fs, vs, c, ch, m) :: r) ⟨⟨hfm4, hfw4, hm1⟩, hmon, hsf4⟩ i (by rw [List.length_cons]; omega)
                    rw [cso_cons] at this
                    exact this
                  have hcc : ψ.2.2.2.1 < 2 ^ 31 := by
                    have h1 := nd2_12 h24 hd0 hrk.2.2.2 (Nat.le_refl w.1)
                    have h2 : 4 ^ nd2 w w.1 ≤ 4 ^ 12 := Nat.pow_le_pow_right (by decide) h1
                    have h3 : (4 : Nat) ^ 12 < 2 ^ 31 := by decide
                    omega
                  have hbb : st = true → ((RR F).length = 0 ∧ bo_ F = none) ∨ ((RR F).length ≠ 0 ∧ ∃ y, bo_ F = some y ∧ ps_ X4 a w y) := fun z => by
                    rcases (hpk4 z).2 with h1 | ⟨y, h1, h2⟩
                    · left; subst h1; exact ⟨rfl, rfl⟩
                    · right; refine ⟨fun q => ?_, y, h1, h2⟩
                      have h3 := RR_len hcp1
                      have h4 : F = [] := List.eq_nil_of_length_eq_zero (by omega)
                      rw [h4] at h1; cases h1
                  have hy127 : ∀ y, bo_ F = some y → sn_ y.2.1.1 ≤ 127 := fun y hy => by
                    have h1 := Br_okk (sg := sg) (show (gd_ sg) ≤ 6 by have := hrk.2.1; omega) 0 (Nat.zero_le _) y ((F_mem hF).1 y (bo_mem hy))
                    have h2 := h1.1
                    have h3 := h1.2.2
                    omega
                  refine mm_aload_n dX5_read_151 rfl 3 rfl ?_
                  refine cm_getR (b := 4) dX5_read_152 ha zr_X5_14 (by decide) rfl rfl rfl ?_
                  refine mm_aload_n dX5_read_155 rfl 3 rfl ?_
                  refine cm_getI dX5_read_156 ha zr_X5_109 (by decide) rfl rfl ?_
                  refine mn_top (u := .int (nI (0))) (congrArg Value.int ((htk))) ?_
                  refine cm_callVr (As := [.int (nI (0))]) (rest := []) (d2 := 0) dX5_read_159 ha (by decide) rfl zz_clX0 zc_X5_112 zs_X0_sortOf rfl rfl (Nat.le_of_ble_eq_true rfl) (Nat.le_of_ble_eq_true rfl) (by decide) (cc_sortOf ha (by omega)) ?_
                  refine mn_top (u := .int (nI (0))) (congrArg Value.int (by rw [if_pos (by decide)]; exact hrq4.2.1.1)) ?_
                  refine mn_if_ne (tgt := 193) dX5_read_162 (by decide) (by omega) (fun c162 => ?_) (fun c162 => ?_)
                  · exact absurd rfl c162
                  · refine mm_aload_n dX5_read_165 rfl 3 rfl ?_
                    refine cm_getR (b := 25) dX5_read_166 ha zr_X5_28 (by decide) rfl rfl rfl ?_
                    refine cm_getI dX5_read_169 ha zr_X5_116 (by decide) rfl rfl ?_
                    refine mn_top (u := .int (nI (ψ.2.2.1.length))) (congrArg Value.int ((hdr.1.2.2.1))) ?_
                    refine mm_aload_n dX5_read_172 rfl 4 rfl ?_
                    refine cm_getR (b := a + 3) dX5_read_173 ha zr_X5_70 (vA_lt hva 0 (by decide)) (vA_0 hva) rfl rfl ?_
                    refine cm_getI dX5_read_176 ha zr_X5_76 (vA_lt hva 3 (by decide)) (vA_3 hva) rfl ?_
                    refine mn_top (u := .int (nI (w.1))) (congrArg Value.int ((hw4.1.1))) ?_
                    refine mn_icmp_ne (tgt := 193) dX5_read_179 (by decide) (by omega) (by omega) (fun c179 => ?_) (fun c179 => ?_)
                    · exact absurd l2 c179
                    · refine mm_aload_n dX5_read_182 rfl 3 rfl ?_
                      refine mm_aload_n dX5_read_183 rfl 4 rfl ?_
                      refine mm_iload_n dX5_read_184 rfl 2 rfl ?_
                      refine mm_iconst (v := nI 1) dX5_read_185 (by decide) ?_
                      refine mn_iadd dX5_read_186 ?_
                      refine mn_top (u := .int (nI ((cso r ++ [ch]).length))) (congrArg Value.int (by rw [hcl])) ?_
                      refine cm_callV (As := [.ref (o + a), .int (nI ((cso r ++ [ch]).length))]) (rest := []) (d2 := 2) dX5_read_187 ha (by decide) rfl zz_clX5 zc_X5_82 zs_X5_keep rfl rfl (Nat.le_of_ble_eq_true rfl) (Nat.le_of_ble_eq_true rfl) (by decide) (cR_keep (w := w) (st := st) (R := RR F) (b := bo_ F) ha hva hst4 hdr l2 h24 hfo4 hlk hcs hcc hbb hy127) (fun r h1 hq => ?_)
                      obtain ⟨rfl, X5, Y5, ha, hf', hkx, hy5, hR, hq1, hq2⟩ := hq
                      have hf := hf.tr hf'
                      have hrq5 := hkx.q hva hrq4
                      have hrd5 := hrd4.tr (hkx.rd hq2 hva)
                      have hst5 : X5 a 8 = nI (Bool.toNat st) := (hkx a 8 (by omega) (by omega) (by omega) (by omega) (by omega)).trans hst4
                      have hY5 : ∀ b i, b ≠ 21 → Y5 b i = Y b i := fun b i n => (hy5 b i n).trans (hY b i n)
                      have hRR : RR (F ++ [(cso r ++ [ch], (ψ.2.1, ψ.2.2.1), ψ.2.2.2.1)]) = RR F ++ List.replicate ψ.2.2.2.1 (cso r ++ [ch], (ψ.2.1, ψ.2.2.1), ψ.2.2.2.1) := RR_app
                      refine mm_goto (tgt := 209) dX5_read_190 (by decide) ?_
                      refine mn_iinc (m := 1) (L' := [(3, .int (nI (turn + 1))), (4, .int (nI (ch))), (2, .int (nI (r.length))), (0, .ref (o + 3)), (1, .ref (o + a))]) dX5_read_209 (by decide) 1 rfl (by decide) rfl ?_
                      refine mm_goto (tgt := 61) dX5_read_212 (by decide) ?_
                      refine mn_sub [0, 2, 3, 4] rfl ?_
                      by_cases hmany : (RR F).length + ψ.2.2.2.1 ≤ 1000
                      · rw [if_pos hmany, ← hRR] at hR
                        have hex : ∀ b i, ((5 ≤ b ∧ b ≤ 9) ∨ (26 ≤ b ∧ b ≤ 34)) → X5 b i = X4 b i := fun b i z => hkx b i (by omega) (by omega) (by omega) (by omega) (by omega)
                        refine ih (turn + 1) 0 ((ts, fs, vs, c, ch, m) :: r) (F ++ [(cso r ++ [ch], (ψ.2.1, ψ.2.2.1), ψ.2.2.2.1)]) X5 Y5 _ (by omega) ⟨hrq5, hst5, ⟨⟨fm_x hfm4 (m := m) (n := fs.length) (p := vs.length) ⟨Nat.le_refl _, Nat.le_refl _, Nat.le_refl _⟩ (fun b i z => hex b i (by omega)), hfw4, hm1⟩, hmon, sf_x (m := m) (n := fs.length) (p := vs.length) hsf4 hmon (fun b i z => hex b i (by omega))⟩, hR, hFr, fun z => ⟨(hq1 z).2.1, Or.inr ⟨_, bo_app, hq1 z⟩⟩, hrd5⟩ (by rw [List.length_append]; show turn + 1 + (r.length + 1) ≤ 95 * (F.length + 1) + 2 * 0 + 1; omega) (Or.inr rfl) (fun z => by omega) h48 hY5 ha hf
                      · rw [if_neg hmany] at hR
                        refine en _ _ X5 Y5 _ ⟨hrq5, hst5, hrd5, fun z => (hq1 z).2.1, Or.inr ⟨hR, ?_⟩⟩ (Or.inr hR) hY5 ha hf
                        have h1 := RR_le (F := F ++ [(cso r ++ [ch], (ψ.2.1, ψ.2.2.1), ψ.2.2.2.1)]) (G := rem_ w sg (gd_ sg) ((ts, fs, vs, c, ch, m) :: r))
                        rw [hFr, hRR, List.length_append, List.length_replicate] at h1
                        omega
                · have hne4 : ∃ y, y ∈ Bt w sg (gd_ sg) (Br w sg (gd_ sg)) ψ.1 ψ.2.2.1.length := by
                    cases hz : Bt w sg (gd_ sg) (Br w sg (gd_ sg)) ψ.1 ψ.2.2.1.length with
                    | nil => exact absurd hz n4
                    | cons x l => exact ⟨x, List.mem_cons_self⟩
                  have hr47 : r.length + 2 ≤ 48 := by
                    obtain ⟨y, hy⟩ := hne4
                    have h1 := hB _ (by rw [e1]; exact List.mem_map.mpr ⟨y, hy, rfl⟩)
                    have o1 := Br_ok2' (sg := sg) (show (gd_ sg) ≤ 6 by have := hrk.2.1; omega) 0 (Nat.zero_le _) _ h1
                    have o2 := (Br_okk (sg := sg) (show (gd_ sg) ≤ 6 by have := hrk.2.1; omega) 0 (Nat.zero_le _) _ h1).1
                    rw [← n3] at hy
                    have h2 := rm_len hy
                    have o3 := o1.2.2.1
                    have o4 := o1.2.2.2
                    have o5 : ((cso r ++ [ch]) ++ y.1).length ≤ _ := o4
                    rw [List.length_append, List.length_append, cso_len] at o5
                    have o5 : r.length + 1 + y.1.length ≤ _ := o5
                    omega
                  have hF5 : F ++ rem_ w sg (gd_ sg) ((ψ.1, ψ.2.1, ψ.2.2.1, ψ.2.2.2.1, 0, ψ.2.2.2.2.2) :: (ts, fs, vs, c, ch, m) :: r) = Br w sg (gd_ sg) 0 := by
                    rw [← hFr, e1, List.append_assoc, ← n3]
                    show F ++ (List.map (pf_ (cso (_ :: r)) _) _ ++ _) = _
                    rw [cso_cons]
                    rfl
                  by_cases hz : ψ.1 = []
                  · have ht0 : t4 = 0 := by rw [hz] at hct4; exact hct4
                    refine mm_aload_n dX5_read_151 rfl 3 rfl ?_
                    refine cm_getR (b := 4) dX5_read_152 ha zr_X5_14 (by decide) rfl rfl rfl ?_
                    refine mm_aload_n dX5_read_155 rfl 3 rfl ?_
                    refine cm_getI dX5_read_156 ha zr_X5_109 (by decide) rfl rfl ?_
                    refine mn_top (u := .int (nI (t4))) (congrArg Value.int ((htk))) ?_
                    refine cm_callVr (As := [.int (nI (t4))]) (rest := []) (d2 := 0) dX5_read_159 ha (by decide) rfl zz_clX0 zc_X5_112 zs_X0_sortOf rfl rfl (Nat.le_of_ble_eq_true rfl) (Nat.le_of_ble_eq_true rfl) (by decide) (cc_sortOf ha (by omega)) ?_
                    refine mn_top (u := .int (nI (0))) (congrArg Value.int (by rw [ht0, if_pos (by decide)]; exact hrq4.2.1.1)) ?_
                    refine mn_if_ne (tgt := 193) dX5_read_162 (by decide) (by omega) (fun c162 => ?_) (fun c162 => ?_)
                    · exact absurd rfl c162
                    · refine mm_aload_n dX5_read_165 rfl 3 rfl ?_
                      refine cm_getR (b := 25) dX5_read_166 ha zr_X5_28 (by decide) rfl rfl rfl ?_
                      refine cm_getI dX5_read_169 ha zr_X5_116 (by decide) rfl rfl ?_
                      refine mn_top (u := .int (nI (ψ.2.2.1.length))) (congrArg Value.int ((hdr.1.2.2.1))) ?_
                      refine mm_aload_n dX5_read_172 rfl 4 rfl ?_
                      refine cm_getR (b := a + 3) dX5_read_173 ha zr_X5_70 (vA_lt hva 0 (by decide)) (vA_0 hva) rfl rfl ?_
                      refine cm_getI dX5_read_176 ha zr_X5_76 (vA_lt hva 3 (by decide)) (vA_3 hva) rfl ?_
                      refine mn_top (u := .int (nI (w.1))) (congrArg Value.int ((hw4.1.1))) ?_
                      refine mn_icmp_ne (tgt := 193) dX5_read_179 (by decide) (by omega) (by omega) (fun c179 => ?_) (fun c179 => ?_)
                      · refine mm_iload_n dX5_read_193 rfl 2 rfl ?_
                        refine mm_iconst (v := nI 1) dX5_read_194 (by decide) ?_
                        refine mn_iadd dX5_read_195 ?_
                        refine mm_bipush (v := nI 48) dX5_read_196 (by decide) ?_
                        refine mn_icmp_ge (tgt := 209) dX5_read_198 (by decide) (by omega) (by omega) (fun c198 => ?_) (fun c198 => ?_)
                        · omega
                        · refine mn_iinc (m := 1) (L' := [(2, .int (nI (r.length + 1))), (4, .int (nI (ch))), (3, .int (nI (turn))), (0, .ref (o + 3)), (1, .ref (o + a))]) dX5_read_201 (by decide) 2 rfl (by decide) rfl ?_
                          refine mm_aload_n dX5_read_204 rfl 3 rfl ?_
                          refine mm_iload_n dX5_read_205 rfl 0 rfl ?_
                          refine cm_callV (As := [.int (nI (r.length + 1))]) (rest := []) (d2 := 0) dX5_read_206 ha (by decide) rfl zz_clX5 zc_X5_86 zs_X5_save rfl rfl (Nat.le_of_ble_eq_true rfl) (Nat.le_of_ble_eq_true rfl) (by decide) (cR_save (d := r.length + 1) ha (by omega)) (fun r h1 hq => ?_)
                          obtain ⟨rfl, ha, hf'⟩ := hq
                          have hf := hf.tr hf'
                          obtain ⟨X5, ha, hfm5, hsv⟩ := sv_pack ha htk htm4 hct4 hm hdr
                          refine mn_iinc (m := 1) (L' := [(3, .int (nI (turn + 1))), (2, .int (nI (r.length + 1))), (4, .int (nI (ch))), (0, .ref (o + 3)), (1, .ref (o + a))]) dX5_read_209 (by decide) 2 rfl (by decide) rfl ?_
                          refine mm_goto (tgt := 61) dX5_read_212 (by decide) ?_
                          refine mn_sub [0, 1, 3, 4] rfl ?_
                          have hex : ∀ b i, ¬ (28 ≤ b ∧ b ≤ 34 ∧ i = r.length + 1) → X5 b i = X4 b i := hsv
                          refine ih (turn + 1) (sv + 1) ((ψ.1, ψ.2.1, ψ.2.2.1, ψ.2.2.2.1, 0, ψ.2.2.2.2.2) :: (ts, fs, vs, c, ch, m) :: r) F X5 Y1 _ (by omega) ⟨rq_x hrq4 hva (fun b i z => hex b i (by omega)), (hex a 8 (by omega)).trans hst4, ⟨⟨hfm5, ⟨n2.1, n2.2.1, n2.2.2.1, n2.2.2.2.1, Nat.zero_le _, n2.2.2.2.2.2⟩, by show 1 ≤ ψ.2.2.2.2.2; omega⟩, ?_, ⟨⟨fm_x hfm4 (m := m) (n := fs.length) (p := vs.length) ⟨Nat.le_refl _, Nat.le_refl _, Nat.le_refl _⟩ (fun b i z => hex b i (by omega)), hfw4, hm1⟩, hmon, sf_x (m := m) (n := fs.length) (p := vs.length) hsf4 hmon (fun b i z => hex b i (by omega))⟩⟩, fo2_x hfo4 (fun b i z => hex b i (by omega)), hF5, fun z => ⟨(hex a 7 (by omega)).trans (hpk4 z).1, (hpk4 z).2.elim Or.inl (fun ⟨y, h1, h2⟩ => Or.inr ⟨y, h1, ps_x h2 (fun b i z => hex b i (by omega))⟩)⟩, hrd4.tr (fun b i z => hex b i (by omega))⟩ (by show turn + 1 + (r.length + 1 + 1) ≤ _; omega) (Or.inl (by show sv + 1 + 1 ≤ r.length + 1 + 1; omega)) (fun _ => ⟨_, _, rfl, by show rm_ w sg (gd_ sg) ψ.1 ψ.2.2.1.length 0 ≠ []; rw [n3]; exact n4⟩) (by show r.length + 1 + 1 ≤ 48; omega) hY ha hf
                          intro χ hχ
                          rcases List.mem_cons.mp hχ with e | e
                          · rw [e]; exact ⟨by show m ≤ ψ.2.2.2.2.2; omega, hnl, hnv⟩
                          · obtain ⟨q1, q2, q3⟩ := hmon χ e; have q1 : _ ≤ m := q1; have q2 : _ ≤ fs.length := q2; have q3 : _ ≤ vs.length := q3; exact ⟨by show _ ≤ ψ.2.2.2.2.2; omega, Nat.le_trans q2 hnl, Nat.le_trans q3 hnv⟩
                      · exact absurd ⟨hz, c179⟩ n1
                  · obtain ⟨u, r', hu⟩ := List.exists_cons_of_ne_nil hz
                    have hun : u.1 = 1 ∨ u.1 = 2 ∨ u.1 = 3 := by have := n2.2.1; rw [hu] at this; exact this
                    have hcq := hct4
                    rw [hu] at hcq
                    have ht8 := hcq.1.2
                    have h5 := hcq.2.1
                    rw [if_neg (by omega)] at h5
                    refine mm_aload_n dX5_read_151 rfl 3 rfl ?_
                    refine cm_getR (b := 4) dX5_read_152 ha zr_X5_14 (by decide) rfl rfl rfl ?_
                    refine mm_aload_n dX5_read_155 rfl 3 rfl ?_
                    refine cm_getI dX5_read_156 ha zr_X5_109 (by decide) rfl rfl ?_
                    refine mn_top (u := .int (nI (t4))) (congrArg Value.int ((htk))) ?_
                    refine cm_callVr (As := [.int (nI (t4))]) (rest := []) (d2 := 0) dX5_read_159 ha (by decide) rfl zz_clX0 zc_X5_112 zs_X0_sortOf rfl rfl (Nat.le_of_ble_eq_true rfl) (Nat.le_of_ble_eq_true rfl) (by decide) (cc_sortOf ha (by omega)) ?_
                    refine mn_top (u := .int (nI (u.1))) (congrArg Value.int (by rw [if_pos ht8]; exact h5)) ?_
                    refine mn_if_ne (tgt := 193) dX5_read_162 (by decide) (by omega) (fun c162 => ?_) (fun c162 => ?_)
                    · refine mm_iload_n dX5_read_193 rfl 2 rfl ?_
                      refine mm_iconst (v := nI 1) dX5_read_194 (by decide) ?_
                      refine mn_iadd dX5_read_195 ?_
                      refine mm_bipush (v := nI 48) dX5_read_196 (by decide) ?_
                      refine mn_icmp_ge (tgt := 209) dX5_read_198 (by decide) (by omega) (by omega) (fun c198 => ?_) (fun c198 => ?_)
                      · omega
                      · refine mn_iinc (m := 1) (L' := [(2, .int (nI (r.length + 1))), (4, .int (nI (ch))), (3, .int (nI (turn))), (0, .ref (o + 3)), (1, .ref (o + a))]) dX5_read_201 (by decide) 2 rfl (by decide) rfl ?_
                        refine mm_aload_n dX5_read_204 rfl 3 rfl ?_
                        refine mm_iload_n dX5_read_205 rfl 0 rfl ?_
                        refine cm_callV (As := [.int (nI (r.length + 1))]) (rest := []) (d2 := 0) dX5_read_206 ha (by decide) rfl zz_clX5 zc_X5_86 zs_X5_save rfl rfl (Nat.le_of_ble_eq_true rfl) (Nat.le_of_ble_eq_true rfl) (by decide) (cR_save (d := r.length + 1) ha (by omega)) (fun r h1 hq => ?_)
                        obtain ⟨rfl, ha, hf'⟩ := hq
                        have hf := hf.tr hf'
                        obtain ⟨X5, ha, hfm5, hsv⟩ := sv_pack ha htk htm4 hct4 hm hdr
                        refine mn_iinc (m := 1) (L' := [(3, .int (nI (turn + 1))), (2, .int (nI (r.length + 1))), (4, .int (nI (ch))), (0, .ref (o + 3)), (1, .ref (o + a))]) dX5_read_209 (by decide) 2 rfl (by decide) rfl ?_
                        refine mm_goto (tgt := 61) dX5_read_212 (by decide) ?_
                        refine mn_sub [0, 1, 3, 4] rfl ?_
                        have hex : ∀ b i, ¬ (28 ≤ b ∧ b ≤ 34 ∧ i = r.length + 1) → X5 b i = X4 b i := hsv
                        refine ih (turn + 1) (sv + 1) ((ψ.1, ψ.2.1, ψ.2.2.1, ψ.2.2.2.1, 0, ψ.2.2.2.2.2) :: (ts, fs, vs, c, ch, m) :: r) F X5 Y1 _ (by omega) ⟨rq_x hrq4 hva (fun b i z => hex b i (by omega)), (hex a 8 (by omega)).trans hst4, ⟨⟨hfm5, ⟨n2.1, n2.2.1, n2.2.2.1, n2.2.2.2.1, Nat.zero_le _, n2.2.2.2.2.2⟩, by show 1 ≤ ψ.2.2.2.2.2; omega⟩, ?_, ⟨⟨fm_x hfm4 (m := m) (n := fs.length) (p := vs.length) ⟨Nat.le_refl _, Nat.le_refl _, Nat.le_refl _⟩ (fun b i z => hex b i (by omega)), hfw4, hm1⟩, hmon, sf_x (m := m) (n := fs.length) (p := vs.length) hsf4 hmon (fun b i z => hex b i (by omega))⟩⟩, fo2_x hfo4 (fun b i z => hex b i (by omega)), hF5, fun z => ⟨(hex a 7 (by omega)).trans (hpk4 z).1, (hpk4 z).2.elim Or.inl (fun ⟨y, h1, h2⟩ => Or.inr ⟨y, h1, ps_x h2 (fun b i z => hex b i (by omega))⟩)⟩, hrd4.tr (fun b i z => hex b i (by omega))⟩ (by show turn + 1 + (r.length + 1 + 1) ≤ _; omega) (Or.inl (by show sv + 1 + 1 ≤ r.length + 1 + 1; omega)) (fun _ => ⟨_, _, rfl, by show rm_ w sg (gd_ sg) ψ.1 ψ.2.2.1.length 0 ≠ []; rw [n3]; exact n4⟩) (by show r.length + 1 + 1 ≤ 48; omega) hY ha hf
                        intro χ hχ
                        rcases List.mem_cons.mp hχ with e | e
                        · rw [e]; exact ⟨by show m ≤ ψ.2.2.2.2.2; omega, hnl, hnv⟩
                        · obtain ⟨q1, q2, q3⟩ := hmon χ e; have q1 : _ ≤ m := q1; have q2 : _ ≤ fs.length := q2; have q3 : _ ≤ vs.length := q3; exact ⟨by show _ ≤ ψ.2.2.2.2.2; omega, Nat.le_trans q2 hnl, Nat.le_trans q3 hnv⟩
                    · omega
              · omega
