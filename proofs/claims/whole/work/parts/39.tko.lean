theorem tk_34 {o : Nat} {F : Nat → Int32} {G : Nat → Int64} {A : Nat → Nat → Int32} {B : Nat → Nat → Int64} {h h1 : mm_H} {w : ro_w} {sg g : Nat} {T I : Nat → Nat} {r : Nat} {S : sc_S} {P : tk_P} {n : Nat} {stk : List tk_T} (tk : tk_at o F G A B h w sg g T I r S P) (ha : rm_at o (upd F 34 (nI n)) G A B h1) (hst : st_at A stk) (hn : n = stk.length) : tk_at o (upd F 34 (nI n)) G A B h1 w sg g T I r S (stk, P.2) := by
  obtain ⟨-, t2, t3, t4, t5⟩ := tk
  have hF : tk_F F (upd F 34 (nI n)) := fun j _ h => pk_un h
  exact ⟨ha, cx_tk hF (tk_A.rf (r := r)) t2, t3, sc_tk (fun j _ _ => pk_un (by omega)) t4, ⟨(pk_un (by decide)).trans t5.1.1, t5.1.2⟩, by rw [pk_us, hn], hst, t5.2.2.2⟩
theorem tk_vs {o : Nat} {F : Nat → Int32} {G : Nat → Int64} {A : Nat → Nat → Int32} {B : Nat → Nat → Int64} {h : mm_H} {w : ro_w} {sg g : Nat} {T I : Nat → Nat} {r : Nat} {S : sc_S} {stk : List tk_T} {fs : List Nat} {V V' : Nat → Nat} (tk : tk_at o F G A B h w sg g T I r S (stk, fs, V)) (hV : ∀ j : Nat, j < 24 → V j = V' j) : tk_at o F G A B h w sg g T I r S (stk, fs, V') := by
  obtain ⟨t1, t2, t3, t4, t5, t6, t7, o1, o2, o3, o4⟩ := tk
  exact ⟨t1, t2, t3, t4, t5, t6, t7, o1, o2, o3, fun i hi => by show A 38 (24 * r + i) = nI (V' i); rw [← hV i hi]; exact o4 i hi⟩
set_option maxRecDepth 100000 in
set_option maxHeartbeats 4000000 in
theorem tm_takeOut {l : Launch} {D : va_G} {aa : Nat → ClassId} {b0 : Nat} {h : mm_H} {o : Nat} {F : Nat → Int32} {G : Nat → Int64} {A : Nat → Nat → Int32} {B : Nat → Nat → Int64} {w : ro_w} {sg g : Nat} {T I : Nat → Nat} {rd : Nat} {S : sc_S} {V : Nat → Nat} (hc : tc_ w sg g T I) (ha : rm_at o F G A B h) (hx : cx_at F A w sg g T) (hI : iw_at A I) (hs : sc_at F S) (h41 : F 41 = nI rd) (hrd : rd < 1000) (h34 : F 34 = nI 0) (hV : ∀ i : Nat, i < 24 → A 38 (24 * rd + i) = nI (V i)) {rank : Nat} (hrk : rank < 3000) (hri : 0 < w.1 → rank < iw_s w g T I 0 (w.1 - 0) (0 + 1)) : mm_V (zz_K l D aa b0) 6 yX12_takeOut cX12_takeOut 6 none 0 [(0, .ref (o)), (1, .int (nI (rank)))] [] h 0 0 (fun r h' => r = none ∧ ∃ (F' : Nat → Int32) (A' : Nat → Nat → Int32) (S' : sc_S), tk_at o F' G A' B h' w sg g T I rd S' (tk_r w sg g T I 100 ([(3, 0, 0, 0, rank)], [], fun _ => 0)) ∧ rm_fr o h h' ∧ tk_F F F' ∧ tk_A rd A A' ∧ (tk_r w sg g T I 100 ([(3, 0, 0, 0, rank)], [], fun _ => 0)).1 = []) := by
  have lp : ∀ (n : Nat) (P : tk_P) (F1 : Nat → Int32) (A1 : Nat → Nat → Int32) (S1 : sc_S) (h1 : mm_H), tws_ w.1 P.1 ≤ n → (∀ t ∈ P.1, tv_ w sg g T I t) → P.2.1.length + tws_ w.1 P.1 ≤ 100 → tk_r w sg g T I n P = tk_r w sg g T I 100 ([(3, 0, 0, 0, rank)], [], fun _ => 0) → tk_at o F1 G A1 B h1 w sg g T I rd S1 P → rm_fr o h h1 → tk_F F F1 → tk_A rd A A1 → mm_V (zz_K l D aa b0) 6 yX12_takeOut cX12_takeOut 6 none 54 [(0, .ref (o)), (1, .int (nI (rank)))] [] h1 0 0 (fun r h' => r = none ∧ ∃ (F' : Nat → Int32) (A' : Nat → Nat → Int32) (S' : sc_S), tk_at o F' G A' B h' w sg g T I rd S' (tk_r w sg g T I 100 ([(3, 0, 0, 0, rank)], [], fun _ => 0)) ∧ rm_fr o h h' ∧ tk_F F F' ∧ tk_A rd A A' ∧ (tk_r w sg g T I 100 ([(3, 0, 0, 0, rank)], [], fun _ => 0)).1 = []) := by
    intro n
    induction n with
    | zero =>
      intro P F1 A1 S1 h1 hn hv hb he tk hf hF hA
      have hl := tws_len hc P.1 hv
      refine mm_aload_n dX12_takeOut_54 rfl 0 rfl ?_
      refine rm_getI 34 dX12_takeOut_55 tk.1 zf_tasks (by decide) rfl rfl ?_
      refine mn_top (u := .int (nI (P.1.length))) (congrArg Value.int ((tk.2.2.2.2.2.1))) ?_
      refine mn_if_le (tgt := 212) dX12_takeOut_58 (by decide) (by omega) (fun c58 => ?_) (fun c58 => ?_)
      · have hP : P.1 = [] := List.eq_nil_of_length_eq_zero c58
        have he : P = tk_r w sg g T I 100 ([(3, 0, 0, 0, rank)], [], fun _ => 0) := he
        exact mm_vret dX12_takeOut_212 rfl (⟨rfl, _, _, _, by rw [← he]; exact tk, hf, hF, hA, by rw [← he]; exact hP⟩)
      · omega
    | succ n ih =>
      intro P F1 A1 S1 h1 hn hv hb he tk hf hF hA
      have hl := tws_len hc P.1 hv
      obtain ⟨stk, x⟩ := P
      cases stk with
      | nil =>
        refine mm_aload_n dX12_takeOut_54 rfl 0 rfl ?_
        refine rm_getI 34 dX12_takeOut_55 tk.1 zf_tasks (by decide) rfl rfl ?_
        refine mn_top (u := .int (nI (0))) (congrArg Value.int ((tk.2.2.2.2.2.1))) ?_
        refine mn_if_le (tgt := 212) dX12_takeOut_58 (by decide) (by omega) (fun c58 => ?_) (fun c58 => ?_)
        · have he : (([] : List tk_T), x) = tk_r w sg g T I 100 ([(3, 0, 0, 0, rank)], [], fun _ => 0) := he
          exact mm_vret dX12_takeOut_212 rfl (⟨rfl, _, _, _, by rw [← he]; exact tk, hf, hF, hA, by rw [← he]⟩)
        · omega
      | cons t rest =>
        have hv0 := hv t List.mem_cons_self
        have hvr : ∀ y ∈ rest, tv_ w sg g T I y := fun y hy => hv y (List.mem_cons_of_mem _ hy)
        obtain ⟨ns, n1, n2, n3, n4⟩ := tk_ok hc (P := (rest, x)) hv0
        have hb : x.1.length + tws_ w.1 (t :: rest) ≤ 100 := hb
        have hn : tws_ w.1 (t :: rest) ≤ n + 1 := hn
        rw [tws_cons] at hb hn
        have hlr := tws_len hc rest hvr
        have n3 : (tk_s w sg g T I t (rest, x)).2.1.length + tws_ w.1 ns ≤ x.1.length + tw_ w.1 t := n3
        have ihx := ih (tk_s w sg g T I t (rest, x))
        have k1 : tws_ w.1 (tk_s w sg g T I t (rest, x)).1 ≤ n := by rw [n1, tws_app]; show tws_ w.1 ns + tws_ w.1 rest ≤ n; omega
        have k2 : ∀ y ∈ (tk_s w sg g T I t (rest, x)).1, tv_ w sg g T I y := by rw [n1]; intro y hy; rcases List.mem_append.mp hy with z | z; exact n2 y z; exact hvr y z
        have k3 : (tk_s w sg g T I t (rest, x)).2.1.length + tws_ w.1 (tk_s w sg g T I t (rest, x)).1 ≤ 100 := by rw [n1, tws_app]; show _ + (tws_ w.1 ns + tws_ w.1 rest) ≤ 100; omega
        have k4 : tk_r w sg g T I n (tk_s w sg g T I t (rest, x)) = tk_r w sg g T I 100 ([(3, 0, 0, 0, rank)], [], fun _ => 0) := he
        obtain ⟨t1, k, a, b, rk⟩ := t
        have hpop := (st_pop tk.2.2.2.2.2.2.1).2
        have hpst := (st_pop tk.2.2.2.2.2.2.1).1
        have hnn := tk.2.1.1.1
        rcases hv0 with ⟨v1, v2, v3, v4⟩ | ⟨v1, v2, v3, v4, v5, v6⟩ | ⟨v1, v2, v3, v4, v5, v6⟩ | ⟨v1, v2, v3, v4⟩ | ⟨v1, v2⟩ <;> dsimp only at *
        · have e1 : t1 = 3 := v1
          refine mm_aload_n dX12_takeOut_54 rfl 0 rfl ?_
          refine rm_getI 34 dX12_takeOut_55 tk.1 zf_tasks (by decide) rfl rfl ?_
          refine mn_top (u := .int (nI (rest.length + 1))) (congrArg Value.int ((tk.2.2.2.2.2.1))) ?_
          refine mn_if_le (tgt := 212) dX12_takeOut_58 (by decide) (by omega) (fun c58 => ?_) (fun c58 => ?_)
          · omega
          · refine mm_aload_n dX12_takeOut_61 rfl 0 rfl ?_
            refine mm_dup dX12_takeOut_62 rfl ?_
            refine rm_getI 34 dX12_takeOut_63 tk.1 zf_tasks (by decide) rfl rfl ?_
            refine mn_top (u := .int (nI (rest.length + 1))) (congrArg Value.int ((tk.2.2.2.2.2.1))) ?_
            refine mm_iconst (v := nI 1) dX12_takeOut_66 (by decide) ?_
            refine mn_isub dX12_takeOut_67 (by omega) ?_
            refine mn_top (u := .int (nI (rest.length))) (congrArg Value.int (congrArg nI (by omega))) ?_
            have ha := tk.1
            refine rm_putI 34 dX12_takeOut_68 ha hf zf_tasks (by decide) rfl rfl rfl rfl (fun h1 ha hf => ?_)
            have tk := tk_34 tk ha hpst rfl
            have hF : tk_F F (upd F1 34 (nI (rest.length))) := hF.tr (fun j _ h => pk_un h)
            refine mm_aload_n dX12_takeOut_71 rfl 0 rfl ?_
            refine rm_getA 29 dX12_takeOut_72 tk.1 zf_taskWhat (by decide) rfl ?_
            refine mm_aload_n dX12_takeOut_75 rfl 0 rfl ?_
            refine rm_getI 34 dX12_takeOut_76 tk.1 zf_tasks (by decide) rfl rfl ?_
            refine mn_top (u := .int (nI (rest.length))) (congrArg Value.int (pk_us)) ?_
            refine rm_iald (k := 29) dX12_takeOut_79 tk.1 rfl rfl rfl (show rest.length < 400 from (by omega)) ?_
            refine mn_top (u := .int (nI (t1))) (congrArg Value.int (hpop.1)) ?_
            refine mm_istore_n (L' := [(2, .int (nI (t1))), (0, .ref (o)), (1, .int (nI (rank)))]) dX12_takeOut_80 rfl (by decide) rfl ?_
            refine mm_aload_n dX12_takeOut_81 rfl 1 rfl ?_
            refine rm_getA 30 dX12_takeOut_82 tk.1 zf_taskKind (by decide) rfl ?_
            refine mm_aload_n dX12_takeOut_85 rfl 1 rfl ?_
            refine rm_getI 34 dX12_takeOut_86 tk.1 zf_tasks (by decide) rfl rfl ?_
            refine mn_top (u := .int (nI (rest.length))) (congrArg Value.int (pk_us)) ?_
            refine rm_iald (k := 30) dX12_takeOut_89 tk.1 rfl rfl rfl (show rest.length < 400 from (by omega)) ?_
            refine mn_top (u := .int (nI (k))) (congrArg Value.int (hpop.2.1)) ?_
            refine mm_istore_n (L' := [(3, .int (nI (k))), (2, .int (nI (t1))), (0, .ref (o)), (1, .int (nI (rank)))]) dX12_takeOut_90 rfl (by decide) rfl ?_
            refine mm_aload_n dX12_takeOut_91 rfl 2 rfl ?_
            refine rm_getA 31 dX12_takeOut_92 tk.1 zf_taskFrom (by decide) rfl ?_
            refine mm_aload_n dX12_takeOut_95 rfl 2 rfl ?_
            refine rm_getI 34 dX12_takeOut_96 tk.1 zf_tasks (by decide) rfl rfl ?_
            refine mn_top (u := .int (nI (rest.length))) (congrArg Value.int (pk_us)) ?_
            refine rm_iald (k := 31) dX12_takeOut_99 tk.1 rfl rfl rfl (show rest.length < 400 from (by omega)) ?_
            refine mn_top (u := .int (nI (a))) (congrArg Value.int (hpop.2.2.1)) ?_
            refine mm_istore (L' := [(4, .int (nI (a))), (3, .int (nI (k))), (2, .int (nI (t1))), (0, .ref (o)), (1, .int (nI (rank)))]) dX12_takeOut_100 (by decide) rfl ?_
            refine mm_aload_n dX12_takeOut_102 rfl 3 rfl ?_
            refine rm_getA 32 dX12_takeOut_103 tk.1 zf_taskTo (by decide) rfl ?_
            refine mm_aload_n dX12_takeOut_106 rfl 3 rfl ?_
            refine rm_getI 34 dX12_takeOut_107 tk.1 zf_tasks (by decide) rfl rfl ?_
            refine mn_top (u := .int (nI (rest.length))) (congrArg Value.int (pk_us)) ?_
            refine rm_iald (k := 32) dX12_takeOut_110 tk.1 rfl rfl rfl (show rest.length < 400 from (by omega)) ?_
            refine mn_top (u := .int (nI (b))) (congrArg Value.int (hpop.2.2.2.1)) ?_
            refine mm_istore (L' := [(5, .int (nI (b))), (4, .int (nI (a))), (3, .int (nI (k))), (2, .int (nI (t1))), (0, .ref (o)), (1, .int (nI (rank)))]) dX12_takeOut_111 (by decide) rfl ?_
            refine mm_iload_n dX12_takeOut_113 rfl 3 rfl ?_
            refine mm_iconst (v := nI 3) dX12_takeOut_114 (by decide) ?_
            refine mn_icmp_ne (tgt := 136) dX12_takeOut_115 (by decide) (by omega) (by omega) (fun c115 => ?_) (fun c115 => ?_)
            · refine mm_iload_n dX12_takeOut_136 rfl 3 rfl ?_
              refine mn_if_ne (tgt := 161) dX12_takeOut_137 (by decide) (by omega) (fun c137 => ?_) (fun c137 => ?_)
              · refine mm_iload_n dX12_takeOut_161 rfl 3 rfl ?_
                refine mm_iconst (v := nI 1) dX12_takeOut_162 (by decide) ?_
                refine mn_icmp_ne (tgt := 187) dX12_takeOut_163 (by decide) (by omega) (by omega) (fun c163 => ?_) (fun c163 => ?_)
                · refine mm_iload_n dX12_takeOut_187 rfl 3 rfl ?_
                  refine mm_iconst (v := nI 2) dX12_takeOut_188 (by decide) ?_
                  refine mn_icmp_ne (tgt := 204) dX12_takeOut_189 (by decide) (by omega) (by omega) (fun c189 => ?_) (fun c189 => ?_)
                  · refine mm_aload_n dX12_takeOut_204 rfl 4 rfl ?_
                    refine mm_iload_n dX12_takeOut_205 rfl 2 rfl ?_
                    omega
                  · refine mm_aload_n dX12_takeOut_192 rfl 4 rfl ?_
                    refine mm_iload_n dX12_takeOut_193 rfl 2 rfl ?_
                    refine mm_iload dX12_takeOut_194 1 rfl ?_
                    refine mm_iload dX12_takeOut_196 0 rfl ?_
                    omega
                · refine mm_aload_n dX12_takeOut_166 rfl 4 rfl ?_
                  refine mm_iload_n dX12_takeOut_167 rfl 2 rfl ?_
                  refine mm_iload dX12_takeOut_168 1 rfl ?_
                  refine mm_iload dX12_takeOut_170 0 rfl ?_
                  refine mm_aload_n dX12_takeOut_172 rfl 4 rfl ?_
                  refine rm_getA 33 dX12_takeOut_173 tk.1 zf_taskRank (by decide) rfl ?_
                  refine mm_aload_n dX12_takeOut_176 rfl 4 rfl ?_
                  refine rm_getI 34 dX12_takeOut_177 tk.1 zf_tasks (by decide) rfl rfl ?_
                  refine mn_top (u := .int (nI (rest.length))) (congrArg Value.int (pk_us)) ?_
                  refine rm_iald (k := 33) dX12_takeOut_180 tk.1 rfl rfl rfl (show rest.length < 400 from (by omega)) ?_
                  refine mn_top (u := .int (nI (rk))) (congrArg Value.int (hpop.2.2.2.2)) ?_
                  omega
              · refine mm_aload_n dX12_takeOut_140 rfl 4 rfl ?_
                refine mm_iload_n dX12_takeOut_141 rfl 2 rfl ?_
                refine mm_iload dX12_takeOut_142 1 rfl ?_
                refine mm_iload dX12_takeOut_144 0 rfl ?_
                refine mm_aload_n dX12_takeOut_146 rfl 4 rfl ?_
                refine rm_getA 33 dX12_takeOut_147 tk.1 zf_taskRank (by decide) rfl ?_
                refine mm_aload_n dX12_takeOut_150 rfl 4 rfl ?_
                refine rm_getI 34 dX12_takeOut_151 tk.1 zf_tasks (by decide) rfl rfl ?_
                refine mn_top (u := .int (nI (rest.length))) (congrArg Value.int (pk_us)) ?_
                refine rm_iald (k := 33) dX12_takeOut_154 tk.1 rfl rfl rfl (show rest.length < 400 from (by omega)) ?_
                refine mn_top (u := .int (nI (rk))) (congrArg Value.int (hpop.2.2.2.2)) ?_
                omega
            · refine mm_aload_n dX12_takeOut_118 rfl 4 rfl ?_
              refine mm_iload dX12_takeOut_119 1 rfl ?_
              refine mm_aload_n dX12_takeOut_121 rfl 4 rfl ?_
              refine rm_getA 33 dX12_takeOut_122 tk.1 zf_taskRank (by decide) rfl ?_
              refine mm_aload_n dX12_takeOut_125 rfl 4 rfl ?_
              refine rm_getI 34 dX12_takeOut_126 tk.1 zf_tasks (by decide) rfl rfl ?_
              refine mn_top (u := .int (nI (rest.length))) (congrArg Value.int (pk_us)) ?_
              refine rm_iald (k := 33) dX12_takeOut_129 tk.1 rfl rfl rfl (show rest.length < 400 from (by omega)) ?_
              refine mn_top (u := .int (nI (rk))) (congrArg Value.int (hpop.2.2.2.2)) ?_
              refine rm_callV (As := [.int (nI (a)), .int (nI (rk))]) (rest := []) (d2 := 5) dX12_takeOut_130 tk.1 zc_doItems zc_doItems_s rfl rfl rfl (Nat.le_of_ble_eq_true rfl) (Nat.le_of_ble_eq_true rfl) (by decide) (tm_doItems tk v2 v3 v4 (by show rest.length + _ ≤ 400; omega) (by show x.1.length + _ ≤ 120; omega)) (fun r h1 hq => ?_)
              obtain ⟨rfl, F1, A1, S1, tk, hf', hF', hA'⟩ := hq
              have hf := hf.tr hf'
              have hF := hF.tr hF'
              have hA := hA.tr hA'
              have hts : tk_s w sg g T I (t1, k, a, b, rk) (rest, x) = op_is w sg g T I a rk (rest, x) := if_pos e1
              refine mm_goto (tgt := 209) dX12_takeOut_133 (by decide) ?_
              refine mm_goto (tgt := 54) dX12_takeOut_209 (by decide) ?_
              refine mn_sub [4, 5] rfl ?_
              exact ihx _ _ _ _ k1 k2 k3 k4 (by rw [hts]; exact tk) hf hF hA
        · have e1 : t1 = 0 := v1
          refine mm_aload_n dX12_takeOut_54 rfl 0 rfl ?_
          refine rm_getI 34 dX12_takeOut_55 tk.1 zf_tasks (by decide) rfl rfl ?_
          refine mn_top (u := .int (nI (rest.length + 1))) (congrArg Value.int ((tk.2.2.2.2.2.1))) ?_
          refine mn_if_le (tgt := 212) dX12_takeOut_58 (by decide) (by omega) (fun c58 => ?_) (fun c58 => ?_)
          · omega
          · refine mm_aload_n dX12_takeOut_61 rfl 0 rfl ?_
            refine mm_dup dX12_takeOut_62 rfl ?_
            refine rm_getI 34 dX12_takeOut_63 tk.1 zf_tasks (by decide) rfl rfl ?_
            refine mn_top (u := .int (nI (rest.length + 1))) (congrArg Value.int ((tk.2.2.2.2.2.1))) ?_
            refine mm_iconst (v := nI 1) dX12_takeOut_66 (by decide) ?_
            refine mn_isub dX12_takeOut_67 (by omega) ?_
            refine mn_top (u := .int (nI (rest.length))) (congrArg Value.int (congrArg nI (by omega))) ?_
            have ha := tk.1
            refine rm_putI 34 dX12_takeOut_68 ha hf zf_tasks (by decide) rfl rfl rfl rfl (fun h1 ha hf => ?_)
            have tk := tk_34 tk ha hpst rfl
            have hF : tk_F F (upd F1 34 (nI (rest.length))) := hF.tr (fun j _ h => pk_un h)
            refine mm_aload_n dX12_takeOut_71 rfl 0 rfl ?_
            refine rm_getA 29 dX12_takeOut_72 tk.1 zf_taskWhat (by decide) rfl ?_
            refine mm_aload_n dX12_takeOut_75 rfl 0 rfl ?_
            refine rm_getI 34 dX12_takeOut_76 tk.1 zf_tasks (by decide) rfl rfl ?_
            refine mn_top (u := .int (nI (rest.length))) (congrArg Value.int (pk_us)) ?_
            refine rm_iald (k := 29) dX12_takeOut_79 tk.1 rfl rfl rfl (show rest.length < 400 from (by omega)) ?_
            refine mn_top (u := .int (nI (t1))) (congrArg Value.int (hpop.1)) ?_
            refine mm_istore_n (L' := [(2, .int (nI (t1))), (0, .ref (o)), (1, .int (nI (rank)))]) dX12_takeOut_80 rfl (by decide) rfl ?_
            refine mm_aload_n dX12_takeOut_81 rfl 1 rfl ?_
            refine rm_getA 30 dX12_takeOut_82 tk.1 zf_taskKind (by decide) rfl ?_
            refine mm_aload_n dX12_takeOut_85 rfl 1 rfl ?_
            refine rm_getI 34 dX12_takeOut_86 tk.1 zf_tasks (by decide) rfl rfl ?_
            refine mn_top (u := .int (nI (rest.length))) (congrArg Value.int (pk_us)) ?_
            refine rm_iald (k := 30) dX12_takeOut_89 tk.1 rfl rfl rfl (show rest.length < 400 from (by omega)) ?_
            refine mn_top (u := .int (nI (k))) (congrArg Value.int (hpop.2.1)) ?_
            refine mm_istore_n (L' := [(3, .int (nI (k))), (2, .int (nI (t1))), (0, .ref (o)), (1, .int (nI (rank)))]) dX12_takeOut_90 rfl (by decide) rfl ?_
            refine mm_aload_n dX12_takeOut_91 rfl 2 rfl ?_
            refine rm_getA 31 dX12_takeOut_92 tk.1 zf_taskFrom (by decide) rfl ?_
            refine mm_aload_n dX12_takeOut_95 rfl 2 rfl ?_
            refine rm_getI 34 dX12_takeOut_96 tk.1 zf_tasks (by decide) rfl rfl ?_
            refine mn_top (u := .int (nI (rest.length))) (congrArg Value.int (pk_us)) ?_
            refine rm_iald (k := 31) dX12_takeOut_99 tk.1 rfl rfl rfl (show rest.length < 400 from (by omega)) ?_
            refine mn_top (u := .int (nI (a))) (congrArg Value.int (hpop.2.2.1)) ?_
            refine mm_istore (L' := [(4, .int (nI (a))), (3, .int (nI (k))), (2, .int (nI (t1))), (0, .ref (o)), (1, .int (nI (rank)))]) dX12_takeOut_100 (by decide) rfl ?_
            refine mm_aload_n dX12_takeOut_102 rfl 3 rfl ?_
            refine rm_getA 32 dX12_takeOut_103 tk.1 zf_taskTo (by decide) rfl ?_
            refine mm_aload_n dX12_takeOut_106 rfl 3 rfl ?_
            refine rm_getI 34 dX12_takeOut_107 tk.1 zf_tasks (by decide) rfl rfl ?_
            refine mn_top (u := .int (nI (rest.length))) (congrArg Value.int (pk_us)) ?_
            refine rm_iald (k := 32) dX12_takeOut_110 tk.1 rfl rfl rfl (show rest.length < 400 from (by omega)) ?_
            refine mn_top (u := .int (nI (b))) (congrArg Value.int (hpop.2.2.2.1)) ?_
            refine mm_istore (L' := [(5, .int (nI (b))), (4, .int (nI (a))), (3, .int (nI (k))), (2, .int (nI (t1))), (0, .ref (o)), (1, .int (nI (rank)))]) dX12_takeOut_111 (by decide) rfl ?_
            refine mm_iload_n dX12_takeOut_113 rfl 3 rfl ?_
            refine mm_iconst (v := nI 3) dX12_takeOut_114 (by decide) ?_
            refine mn_icmp_ne (tgt := 136) dX12_takeOut_115 (by decide) (by omega) (by omega) (fun c115 => ?_) (fun c115 => ?_)
            · refine mm_iload_n dX12_takeOut_136 rfl 3 rfl ?_
              refine mn_if_ne (tgt := 161) dX12_takeOut_137 (by decide) (by omega) (fun c137 => ?_) (fun c137 => ?_)
              · refine mm_iload_n dX12_takeOut_161 rfl 3 rfl ?_
                refine mm_iconst (v := nI 1) dX12_takeOut_162 (by decide) ?_
                refine mn_icmp_ne (tgt := 187) dX12_takeOut_163 (by decide) (by omega) (by omega) (fun c163 => ?_) (fun c163 => ?_)
                · refine mm_iload_n dX12_takeOut_187 rfl 3 rfl ?_
                  refine mm_iconst (v := nI 2) dX12_takeOut_188 (by decide) ?_
                  refine mn_icmp_ne (tgt := 204) dX12_takeOut_189 (by decide) (by omega) (by omega) (fun c189 => ?_) (fun c189 => ?_)
                  · refine mm_aload_n dX12_takeOut_204 rfl 4 rfl ?_
                    refine mm_iload_n dX12_takeOut_205 rfl 2 rfl ?_
                    omega
                  · refine mm_aload_n dX12_takeOut_192 rfl 4 rfl ?_
                    refine mm_iload_n dX12_takeOut_193 rfl 2 rfl ?_
                    refine mm_iload dX12_takeOut_194 1 rfl ?_
                    refine mm_iload dX12_takeOut_196 0 rfl ?_
                    omega
                · refine mm_aload_n dX12_takeOut_166 rfl 4 rfl ?_
                  refine mm_iload_n dX12_takeOut_167 rfl 2 rfl ?_
                  refine mm_iload dX12_takeOut_168 1 rfl ?_
                  refine mm_iload dX12_takeOut_170 0 rfl ?_
                  refine mm_aload_n dX12_takeOut_172 rfl 4 rfl ?_
                  refine rm_getA 33 dX12_takeOut_173 tk.1 zf_taskRank (by decide) rfl ?_
                  refine mm_aload_n dX12_takeOut_176 rfl 4 rfl ?_
                  refine rm_getI 34 dX12_takeOut_177 tk.1 zf_tasks (by decide) rfl rfl ?_
                  refine mn_top (u := .int (nI (rest.length))) (congrArg Value.int (pk_us)) ?_
                  refine rm_iald (k := 33) dX12_takeOut_180 tk.1 rfl rfl rfl (show rest.length < 400 from (by omega)) ?_
                  refine mn_top (u := .int (nI (rk))) (congrArg Value.int (hpop.2.2.2.2)) ?_
                  omega
              · refine mm_aload_n dX12_takeOut_140 rfl 4 rfl ?_
                refine mm_iload_n dX12_takeOut_141 rfl 2 rfl ?_
                refine mm_iload dX12_takeOut_142 1 rfl ?_
                refine mm_iload dX12_takeOut_144 0 rfl ?_
                refine mm_aload_n dX12_takeOut_146 rfl 4 rfl ?_
                refine rm_getA 33 dX12_takeOut_147 tk.1 zf_taskRank (by decide) rfl ?_
                refine mm_aload_n dX12_takeOut_150 rfl 4 rfl ?_
                refine rm_getI 34 dX12_takeOut_151 tk.1 zf_tasks (by decide) rfl rfl ?_
                refine mn_top (u := .int (nI (rest.length))) (congrArg Value.int (pk_us)) ?_
                refine rm_iald (k := 33) dX12_takeOut_154 tk.1 rfl rfl rfl (show rest.length < 400 from (by omega)) ?_
                refine mn_top (u := .int (nI (rk))) (congrArg Value.int (hpop.2.2.2.2)) ?_
                obtain ⟨e, q, hp⟩ := pk_some _ _ v6
                refine rm_callV (As := [.int (nI (k)), .int (nI (a)), .int (nI (b)), .int (nI (rk))]) (rest := []) (d2 := 4) dX12_takeOut_155 tk.1 zc_doUnit zc_doUnit_s rfl rfl rfl (Nat.le_of_ble_eq_true rfl) (Nat.le_of_ble_eq_true rfl) (by decide) (tm_doUnit tk v2 v3 (by omega) v5 hp (by show rest.length + _ ≤ 400; omega) (by show x.1.length + _ ≤ 120; omega)) (fun r h1 hq => ?_)
                obtain ⟨rfl, F1, A1, S1, tk, hf', hF', hA'⟩ := hq
                have hf := hf.tr hf'
                have hF := hF.tr hF'
                have hA := hA.tr hA'
                have hts : tk_s w sg g T I (t1, k, a, b, rk) (rest, x) = op_u sg T k a b e q (rest, x) := by unfold tk_s; dsimp only; rw [if_neg (by omega), if_pos e1, hp]
                refine mm_goto (tgt := 209) dX12_takeOut_158 (by decide) ?_
                refine mm_goto (tgt := 54) dX12_takeOut_209 (by decide) ?_
                refine mn_sub [4, 5] rfl ?_
                exact ihx _ _ _ _ k1 k2 k3 k4 (by rw [hts]; exact tk) hf hF hA
            · refine mm_aload_n dX12_takeOut_118 rfl 4 rfl ?_
              refine mm_iload dX12_takeOut_119 1 rfl ?_
              refine mm_aload_n dX12_takeOut_121 rfl 4 rfl ?_
              refine rm_getA 33 dX12_takeOut_122 tk.1 zf_taskRank (by decide) rfl ?_
              refine mm_aload_n dX12_takeOut_125 rfl 4 rfl ?_
              refine rm_getI 34 dX12_takeOut_126 tk.1 zf_tasks (by decide) rfl rfl ?_
              refine mn_top (u := .int (nI (rest.length))) (congrArg Value.int (pk_us)) ?_
              refine rm_iald (k := 33) dX12_takeOut_129 tk.1 rfl rfl rfl (show rest.length < 400 from (by omega)) ?_
              refine mn_top (u := .int (nI (rk))) (congrArg Value.int (hpop.2.2.2.2)) ?_
              omega
        · have e1 : t1 = 1 := v1
          refine mm_aload_n dX12_takeOut_54 rfl 0 rfl ?_
          refine rm_getI 34 dX12_takeOut_55 tk.1 zf_tasks (by decide) rfl rfl ?_
          refine mn_top (u := .int (nI (rest.length + 1))) (congrArg Value.int ((tk.2.2.2.2.2.1))) ?_
          refine mn_if_le (tgt := 212) dX12_takeOut_58 (by decide) (by omega) (fun c58 => ?_) (fun c58 => ?_)
          · omega
          · refine mm_aload_n dX12_takeOut_61 rfl 0 rfl ?_
            refine mm_dup dX12_takeOut_62 rfl ?_
            refine rm_getI 34 dX12_takeOut_63 tk.1 zf_tasks (by decide) rfl rfl ?_
            refine mn_top (u := .int (nI (rest.length + 1))) (congrArg Value.int ((tk.2.2.2.2.2.1))) ?_
            refine mm_iconst (v := nI 1) dX12_takeOut_66 (by decide) ?_
            refine mn_isub dX12_takeOut_67 (by omega) ?_
            refine mn_top (u := .int (nI (rest.length))) (congrArg Value.int (congrArg nI (by omega))) ?_
            have ha := tk.1
            refine rm_putI 34 dX12_takeOut_68 ha hf zf_tasks (by decide) rfl rfl rfl rfl (fun h1 ha hf => ?_)
            have tk := tk_34 tk ha hpst rfl
            have hF : tk_F F (upd F1 34 (nI (rest.length))) := hF.tr (fun j _ h => pk_un h)
            refine mm_aload_n dX12_takeOut_71 rfl 0 rfl ?_
            refine rm_getA 29 dX12_takeOut_72 tk.1 zf_taskWhat (by decide) rfl ?_
            refine mm_aload_n dX12_takeOut_75 rfl 0 rfl ?_
            refine rm_getI 34 dX12_takeOut_76 tk.1 zf_tasks (by decide) rfl rfl ?_
            refine mn_top (u := .int (nI (rest.length))) (congrArg Value.int (pk_us)) ?_
            refine rm_iald (k := 29) dX12_takeOut_79 tk.1 rfl rfl rfl (show rest.length < 400 from (by omega)) ?_
            refine mn_top (u := .int (nI (t1))) (congrArg Value.int (hpop.1)) ?_
            refine mm_istore_n (L' := [(2, .int (nI (t1))), (0, .ref (o)), (1, .int (nI (rank)))]) dX12_takeOut_80 rfl (by decide) rfl ?_
            refine mm_aload_n dX12_takeOut_81 rfl 1 rfl ?_
            refine rm_getA 30 dX12_takeOut_82 tk.1 zf_taskKind (by decide) rfl ?_
            refine mm_aload_n dX12_takeOut_85 rfl 1 rfl ?_
            refine rm_getI 34 dX12_takeOut_86 tk.1 zf_tasks (by decide) rfl rfl ?_
            refine mn_top (u := .int (nI (rest.length))) (congrArg Value.int (pk_us)) ?_
            refine rm_iald (k := 30) dX12_takeOut_89 tk.1 rfl rfl rfl (show rest.length < 400 from (by omega)) ?_
            refine mn_top (u := .int (nI (k))) (congrArg Value.int (hpop.2.1)) ?_
            refine mm_istore_n (L' := [(3, .int (nI (k))), (2, .int (nI (t1))), (0, .ref (o)), (1, .int (nI (rank)))]) dX12_takeOut_90 rfl (by decide) rfl ?_
            refine mm_aload_n dX12_takeOut_91 rfl 2 rfl ?_
            refine rm_getA 31 dX12_takeOut_92 tk.1 zf_taskFrom (by decide) rfl ?_
            refine mm_aload_n dX12_takeOut_95 rfl 2 rfl ?_
            refine rm_getI 34 dX12_takeOut_96 tk.1 zf_tasks (by decide) rfl rfl ?_
            refine mn_top (u := .int (nI (rest.length))) (congrArg Value.int (pk_us)) ?_
            refine rm_iald (k := 31) dX12_takeOut_99 tk.1 rfl rfl rfl (show rest.length < 400 from (by omega)) ?_
            refine mn_top (u := .int (nI (a))) (congrArg Value.int (hpop.2.2.1)) ?_
            refine mm_istore (L' := [(4, .int (nI (a))), (3, .int (nI (k))), (2, .int (nI (t1))), (0, .ref (o)), (1, .int (nI (rank)))]) dX12_takeOut_100 (by decide) rfl ?_
            refine mm_aload_n dX12_takeOut_102 rfl 3 rfl ?_
            refine rm_getA 32 dX12_takeOut_103 tk.1 zf_taskTo (by decide) rfl ?_
            refine mm_aload_n dX12_takeOut_106 rfl 3 rfl ?_
            refine rm_getI 34 dX12_takeOut_107 tk.1 zf_tasks (by decide) rfl rfl ?_
            refine mn_top (u := .int (nI (rest.length))) (congrArg Value.int (pk_us)) ?_
            refine rm_iald (k := 32) dX12_takeOut_110 tk.1 rfl rfl rfl (show rest.length < 400 from (by omega)) ?_
            refine mn_top (u := .int (nI (b))) (congrArg Value.int (hpop.2.2.2.1)) ?_
            refine mm_istore (L' := [(5, .int (nI (b))), (4, .int (nI (a))), (3, .int (nI (k))), (2, .int (nI (t1))), (0, .ref (o)), (1, .int (nI (rank)))]) dX12_takeOut_111 (by decide) rfl ?_
            refine mm_iload_n dX12_takeOut_113 rfl 3 rfl ?_
            refine mm_iconst (v := nI 3) dX12_takeOut_114 (by decide) ?_
            refine mn_icmp_ne (tgt := 136) dX12_takeOut_115 (by decide) (by omega) (by omega) (fun c115 => ?_) (fun c115 => ?_)
            · refine mm_iload_n dX12_takeOut_136 rfl 3 rfl ?_
              refine mn_if_ne (tgt := 161) dX12_takeOut_137 (by decide) (by omega) (fun c137 => ?_) (fun c137 => ?_)
              · refine mm_iload_n dX12_takeOut_161 rfl 3 rfl ?_
                refine mm_iconst (v := nI 1) dX12_takeOut_162 (by decide) ?_
                refine mn_icmp_ne (tgt := 187) dX12_takeOut_163 (by decide) (by omega) (by omega) (fun c163 => ?_) (fun c163 => ?_)
                · refine mm_iload_n dX12_takeOut_187 rfl 3 rfl ?_
                  refine mm_iconst (v := nI 2) dX12_takeOut_188 (by decide) ?_
                  refine mn_icmp_ne (tgt := 204) dX12_takeOut_189 (by decide) (by omega) (by omega) (fun c189 => ?_) (fun c189 => ?_)
                  · refine mm_aload_n dX12_takeOut_204 rfl 4 rfl ?_
                    refine mm_iload_n dX12_takeOut_205 rfl 2 rfl ?_
                    omega
                  · refine mm_aload_n dX12_takeOut_192 rfl 4 rfl ?_
                    refine mm_iload_n dX12_takeOut_193 rfl 2 rfl ?_
                    refine mm_iload dX12_takeOut_194 1 rfl ?_
                    refine mm_iload dX12_takeOut_196 0 rfl ?_
                    omega
                · refine mm_aload_n dX12_takeOut_166 rfl 4 rfl ?_
                  refine mm_iload_n dX12_takeOut_167 rfl 2 rfl ?_
                  refine mm_iload dX12_takeOut_168 1 rfl ?_
                  refine mm_iload dX12_takeOut_170 0 rfl ?_
                  refine mm_aload_n dX12_takeOut_172 rfl 4 rfl ?_
                  refine rm_getA 33 dX12_takeOut_173 tk.1 zf_taskRank (by decide) rfl ?_
                  refine mm_aload_n dX12_takeOut_176 rfl 4 rfl ?_
                  refine rm_getI 34 dX12_takeOut_177 tk.1 zf_tasks (by decide) rfl rfl ?_
                  refine mn_top (u := .int (nI (rest.length))) (congrArg Value.int (pk_us)) ?_
                  refine rm_iald (k := 33) dX12_takeOut_180 tk.1 rfl rfl rfl (show rest.length < 400 from (by omega)) ?_
                  refine mn_top (u := .int (nI (rk))) (congrArg Value.int (hpop.2.2.2.2)) ?_
                  obtain ⟨e, q, hp⟩ := pk_some _ _ v6
                  refine rm_callV (As := [.int (nI (k)), .int (nI (a)), .int (nI (b)), .int (nI (rk))]) (rest := []) (d2 := 4) dX12_takeOut_181 tk.1 zc_doPair zc_doPair_s rfl rfl rfl (Nat.le_of_ble_eq_true rfl) (Nat.le_of_ble_eq_true rfl) (by decide) (tm_doPair tk v2 v3 (by omega) v5 hp (by show rest.length + _ ≤ 400; omega) (by show x.1.length + _ ≤ 120; omega)) (fun r h1 hq => ?_)
                  obtain ⟨rfl, F1, A1, S1, tk, hf', hF', hA'⟩ := hq
                  have hf := hf.tr hf'
                  have hF := hF.tr hF'
                  have hA := hA.tr hA'
                  have hts : tk_s w sg g T I (t1, k, a, b, rk) (rest, x) = op_pr sg k a b e q (rest, x) := by unfold tk_s; dsimp only; rw [if_neg (by omega), if_neg (by omega), if_pos e1, hp]
                  refine mm_goto (tgt := 209) dX12_takeOut_184 (by decide) ?_
                  refine mm_goto (tgt := 54) dX12_takeOut_209 (by decide) ?_
                  refine mn_sub [4, 5] rfl ?_
                  exact ihx _ _ _ _ k1 k2 k3 k4 (by rw [hts]; exact tk) hf hF hA
              · refine mm_aload_n dX12_takeOut_140 rfl 4 rfl ?_
                refine mm_iload_n dX12_takeOut_141 rfl 2 rfl ?_
                refine mm_iload dX12_takeOut_142 1 rfl ?_
                refine mm_iload dX12_takeOut_144 0 rfl ?_
                refine mm_aload_n dX12_takeOut_146 rfl 4 rfl ?_
                refine rm_getA 33 dX12_takeOut_147 tk.1 zf_taskRank (by decide) rfl ?_
                refine mm_aload_n dX12_takeOut_150 rfl 4 rfl ?_
                refine rm_getI 34 dX12_takeOut_151 tk.1 zf_tasks (by decide) rfl rfl ?_
                refine mn_top (u := .int (nI (rest.length))) (congrArg Value.int (pk_us)) ?_
                refine rm_iald (k := 33) dX12_takeOut_154 tk.1 rfl rfl rfl (show rest.length < 400 from (by omega)) ?_
                refine mn_top (u := .int (nI (rk))) (congrArg Value.int (hpop.2.2.2.2)) ?_
                omega
            · refine mm_aload_n dX12_takeOut_118 rfl 4 rfl ?_
              refine mm_iload dX12_takeOut_119 1 rfl ?_
              refine mm_aload_n dX12_takeOut_121 rfl 4 rfl ?_
              refine rm_getA 33 dX12_takeOut_122 tk.1 zf_taskRank (by decide) rfl ?_
              refine mm_aload_n dX12_takeOut_125 rfl 4 rfl ?_
              refine rm_getI 34 dX12_takeOut_126 tk.1 zf_tasks (by decide) rfl rfl ?_
              refine mn_top (u := .int (nI (rest.length))) (congrArg Value.int (pk_us)) ?_
              refine rm_iald (k := 33) dX12_takeOut_129 tk.1 rfl rfl rfl (show rest.length < 400 from (by omega)) ?_
              refine mn_top (u := .int (nI (rk))) (congrArg Value.int (hpop.2.2.2.2)) ?_
              omega
        · have e1 : t1 = 2 := v1
          refine mm_aload_n dX12_takeOut_54 rfl 0 rfl ?_
          refine rm_getI 34 dX12_takeOut_55 tk.1 zf_tasks (by decide) rfl rfl ?_
          refine mn_top (u := .int (nI (rest.length + 1))) (congrArg Value.int ((tk.2.2.2.2.2.1))) ?_
          refine mn_if_le (tgt := 212) dX12_takeOut_58 (by decide) (by omega) (fun c58 => ?_) (fun c58 => ?_)
          · omega
          · refine mm_aload_n dX12_takeOut_61 rfl 0 rfl ?_
            refine mm_dup dX12_takeOut_62 rfl ?_
            refine rm_getI 34 dX12_takeOut_63 tk.1 zf_tasks (by decide) rfl rfl ?_
            refine mn_top (u := .int (nI (rest.length + 1))) (congrArg Value.int ((tk.2.2.2.2.2.1))) ?_
            refine mm_iconst (v := nI 1) dX12_takeOut_66 (by decide) ?_
            refine mn_isub dX12_takeOut_67 (by omega) ?_
            refine mn_top (u := .int (nI (rest.length))) (congrArg Value.int (congrArg nI (by omega))) ?_
            have ha := tk.1
            refine rm_putI 34 dX12_takeOut_68 ha hf zf_tasks (by decide) rfl rfl rfl rfl (fun h1 ha hf => ?_)
            have tk := tk_34 tk ha hpst rfl
            have hF : tk_F F (upd F1 34 (nI (rest.length))) := hF.tr (fun j _ h => pk_un h)
            refine mm_aload_n dX12_takeOut_71 rfl 0 rfl ?_
            refine rm_getA 29 dX12_takeOut_72 tk.1 zf_taskWhat (by decide) rfl ?_
            refine mm_aload_n dX12_takeOut_75 rfl 0 rfl ?_
            refine rm_getI 34 dX12_takeOut_76 tk.1 zf_tasks (by decide) rfl rfl ?_
            refine mn_top (u := .int (nI (rest.length))) (congrArg Value.int (pk_us)) ?_
            refine rm_iald (k := 29) dX12_takeOut_79 tk.1 rfl rfl rfl (show rest.length < 400 from (by omega)) ?_
            refine mn_top (u := .int (nI (t1))) (congrArg Value.int (hpop.1)) ?_
            refine mm_istore_n (L' := [(2, .int (nI (t1))), (0, .ref (o)), (1, .int (nI (rank)))]) dX12_takeOut_80 rfl (by decide) rfl ?_
            refine mm_aload_n dX12_takeOut_81 rfl 1 rfl ?_
            refine rm_getA 30 dX12_takeOut_82 tk.1 zf_taskKind (by decide) rfl ?_
            refine mm_aload_n dX12_takeOut_85 rfl 1 rfl ?_
            refine rm_getI 34 dX12_takeOut_86 tk.1 zf_tasks (by decide) rfl rfl ?_
            refine mn_top (u := .int (nI (rest.length))) (congrArg Value.int (pk_us)) ?_
            refine rm_iald (k := 30) dX12_takeOut_89 tk.1 rfl rfl rfl (show rest.length < 400 from (by omega)) ?_
            refine mn_top (u := .int (nI (k))) (congrArg Value.int (hpop.2.1)) ?_
            refine mm_istore_n (L' := [(3, .int (nI (k))), (2, .int (nI (t1))), (0, .ref (o)), (1, .int (nI (rank)))]) dX12_takeOut_90 rfl (by decide) rfl ?_
            refine mm_aload_n dX12_takeOut_91 rfl 2 rfl ?_
            refine rm_getA 31 dX12_takeOut_92 tk.1 zf_taskFrom (by decide) rfl ?_
            refine mm_aload_n dX12_takeOut_95 rfl 2 rfl ?_
            refine rm_getI 34 dX12_takeOut_96 tk.1 zf_tasks (by decide) rfl rfl ?_
            refine mn_top (u := .int (nI (rest.length))) (congrArg Value.int (pk_us)) ?_
            refine rm_iald (k := 31) dX12_takeOut_99 tk.1 rfl rfl rfl (show rest.length < 400 from (by omega)) ?_
            refine mn_top (u := .int (nI (a))) (congrArg Value.int (hpop.2.2.1)) ?_
            refine mm_istore (L' := [(4, .int (nI (a))), (3, .int (nI (k))), (2, .int (nI (t1))), (0, .ref (o)), (1, .int (nI (rank)))]) dX12_takeOut_100 (by decide) rfl ?_
            refine mm_aload_n dX12_takeOut_102 rfl 3 rfl ?_
            refine rm_getA 32 dX12_takeOut_103 tk.1 zf_taskTo (by decide) rfl ?_
            refine mm_aload_n dX12_takeOut_106 rfl 3 rfl ?_
            refine rm_getI 34 dX12_takeOut_107 tk.1 zf_tasks (by decide) rfl rfl ?_
            refine mn_top (u := .int (nI (rest.length))) (congrArg Value.int (pk_us)) ?_
            refine rm_iald (k := 32) dX12_takeOut_110 tk.1 rfl rfl rfl (show rest.length < 400 from (by omega)) ?_
            refine mn_top (u := .int (nI (b))) (congrArg Value.int (hpop.2.2.2.1)) ?_
            refine mm_istore (L' := [(5, .int (nI (b))), (4, .int (nI (a))), (3, .int (nI (k))), (2, .int (nI (t1))), (0, .ref (o)), (1, .int (nI (rank)))]) dX12_takeOut_111 (by decide) rfl ?_
            refine mm_iload_n dX12_takeOut_113 rfl 3 rfl ?_
            refine mm_iconst (v := nI 3) dX12_takeOut_114 (by decide) ?_
            refine mn_icmp_ne (tgt := 136) dX12_takeOut_115 (by decide) (by omega) (by omega) (fun c115 => ?_) (fun c115 => ?_)
            · refine mm_iload_n dX12_takeOut_136 rfl 3 rfl ?_
              refine mn_if_ne (tgt := 161) dX12_takeOut_137 (by decide) (by omega) (fun c137 => ?_) (fun c137 => ?_)
              · refine mm_iload_n dX12_takeOut_161 rfl 3 rfl ?_
                refine mm_iconst (v := nI 1) dX12_takeOut_162 (by decide) ?_
                refine mn_icmp_ne (tgt := 187) dX12_takeOut_163 (by decide) (by omega) (by omega) (fun c163 => ?_) (fun c163 => ?_)
                · refine mm_iload_n dX12_takeOut_187 rfl 3 rfl ?_
                  refine mm_iconst (v := nI 2) dX12_takeOut_188 (by decide) ?_
                  refine mn_icmp_ne (tgt := 204) dX12_takeOut_189 (by decide) (by omega) (by omega) (fun c189 => ?_) (fun c189 => ?_)
                  · refine mm_aload_n dX12_takeOut_204 rfl 4 rfl ?_
                    refine mm_iload_n dX12_takeOut_205 rfl 2 rfl ?_
                    omega
                  · refine mm_aload_n dX12_takeOut_192 rfl 4 rfl ?_
                    refine mm_iload_n dX12_takeOut_193 rfl 2 rfl ?_
                    refine mm_iload dX12_takeOut_194 1 rfl ?_
                    refine mm_iload dX12_takeOut_196 0 rfl ?_
                    refine rm_callV (As := [.int (nI (k)), .int (nI (a)), .int (nI (b))]) (rest := []) (d2 := 3) dX12_takeOut_198 tk.1 zc_doThird zc_doThird_s rfl rfl rfl (Nat.le_of_ble_eq_true rfl) (Nat.le_of_ble_eq_true rfl) (by decide) (tm_doThird tk v2 v3 (by omega) (by show rest.length + _ ≤ 400; omega) (by show x.1.length + _ ≤ 120; omega)) (fun r h1 hq => ?_)
                    obtain ⟨rfl, F1, A1, tk, hf', hF', hA'⟩ := hq
                    have hf := hf.tr hf'
                    have hF := hF.tr hF'
                    have hA := hA.tr hA'
                    have hts : tk_s w sg g T I (t1, k, a, b, rk) (rest, x) = op_d sg k a b (rest, x) := by unfold tk_s; dsimp only; rw [if_neg (by omega), if_neg (by omega), if_neg (by omega), if_pos e1]
                    refine mm_goto (tgt := 209) dX12_takeOut_201 (by decide) ?_
                    refine mm_goto (tgt := 54) dX12_takeOut_209 (by decide) ?_
                    refine mn_sub [4, 5] rfl ?_
                    exact ihx _ _ _ _ k1 k2 k3 k4 (by rw [hts]; exact tk) hf hF hA
                · refine mm_aload_n dX12_takeOut_166 rfl 4 rfl ?_
                  refine mm_iload_n dX12_takeOut_167 rfl 2 rfl ?_
                  refine mm_iload dX12_takeOut_168 1 rfl ?_
                  refine mm_iload dX12_takeOut_170 0 rfl ?_
                  refine mm_aload_n dX12_takeOut_172 rfl 4 rfl ?_
                  refine rm_getA 33 dX12_takeOut_173 tk.1 zf_taskRank (by decide) rfl ?_
                  refine mm_aload_n dX12_takeOut_176 rfl 4 rfl ?_
                  refine rm_getI 34 dX12_takeOut_177 tk.1 zf_tasks (by decide) rfl rfl ?_
                  refine mn_top (u := .int (nI (rest.length))) (congrArg Value.int (pk_us)) ?_
                  refine rm_iald (k := 33) dX12_takeOut_180 tk.1 rfl rfl rfl (show rest.length < 400 from (by omega)) ?_
                  refine mn_top (u := .int (nI (rk))) (congrArg Value.int (hpop.2.2.2.2)) ?_
                  omega
              · refine mm_aload_n dX12_takeOut_140 rfl 4 rfl ?_
                refine mm_iload_n dX12_takeOut_141 rfl 2 rfl ?_
                refine mm_iload dX12_takeOut_142 1 rfl ?_
                refine mm_iload dX12_takeOut_144 0 rfl ?_
                refine mm_aload_n dX12_takeOut_146 rfl 4 rfl ?_
                refine rm_getA 33 dX12_takeOut_147 tk.1 zf_taskRank (by decide) rfl ?_
                refine mm_aload_n dX12_takeOut_150 rfl 4 rfl ?_
                refine rm_getI 34 dX12_takeOut_151 tk.1 zf_tasks (by decide) rfl rfl ?_
                refine mn_top (u := .int (nI (rest.length))) (congrArg Value.int (pk_us)) ?_
                refine rm_iald (k := 33) dX12_takeOut_154 tk.1 rfl rfl rfl (show rest.length < 400 from (by omega)) ?_
                refine mn_top (u := .int (nI (rk))) (congrArg Value.int (hpop.2.2.2.2)) ?_
                omega
            · refine mm_aload_n dX12_takeOut_118 rfl 4 rfl ?_
              refine mm_iload dX12_takeOut_119 1 rfl ?_
              refine mm_aload_n dX12_takeOut_121 rfl 4 rfl ?_
              refine rm_getA 33 dX12_takeOut_122 tk.1 zf_taskRank (by decide) rfl ?_
              refine mm_aload_n dX12_takeOut_125 rfl 4 rfl ?_
              refine rm_getI 34 dX12_takeOut_126 tk.1 zf_tasks (by decide) rfl rfl ?_
              refine mn_top (u := .int (nI (rest.length))) (congrArg Value.int (pk_us)) ?_
              refine rm_iald (k := 33) dX12_takeOut_129 tk.1 rfl rfl rfl (show rest.length < 400 from (by omega)) ?_
              refine mn_top (u := .int (nI (rk))) (congrArg Value.int (hpop.2.2.2.2)) ?_
              omega
        · have e1 : t1 = 4 := v1
          refine mm_aload_n dX12_takeOut_54 rfl 0 rfl ?_
          refine rm_getI 34 dX12_takeOut_55 tk.1 zf_tasks (by decide) rfl rfl ?_
          refine mn_top (u := .int (nI (rest.length + 1))) (congrArg Value.int ((tk.2.2.2.2.2.1))) ?_
          refine mn_if_le (tgt := 212) dX12_takeOut_58 (by decide) (by omega) (fun c58 => ?_) (fun c58 => ?_)
          · omega
          · refine mm_aload_n dX12_takeOut_61 rfl 0 rfl ?_
            refine mm_dup dX12_takeOut_62 rfl ?_
            refine rm_getI 34 dX12_takeOut_63 tk.1 zf_tasks (by decide) rfl rfl ?_
            refine mn_top (u := .int (nI (rest.length + 1))) (congrArg Value.int ((tk.2.2.2.2.2.1))) ?_
            refine mm_iconst (v := nI 1) dX12_takeOut_66 (by decide) ?_
            refine mn_isub dX12_takeOut_67 (by omega) ?_
            refine mn_top (u := .int (nI (rest.length))) (congrArg Value.int (congrArg nI (by omega))) ?_
            have ha := tk.1
            refine rm_putI 34 dX12_takeOut_68 ha hf zf_tasks (by decide) rfl rfl rfl rfl (fun h1 ha hf => ?_)
            have tk := tk_34 tk ha hpst rfl
            have hF : tk_F F (upd F1 34 (nI (rest.length))) := hF.tr (fun j _ h => pk_un h)
            refine mm_aload_n dX12_takeOut_71 rfl 0 rfl ?_
            refine rm_getA 29 dX12_takeOut_72 tk.1 zf_taskWhat (by decide) rfl ?_
            refine mm_aload_n dX12_takeOut_75 rfl 0 rfl ?_
            refine rm_getI 34 dX12_takeOut_76 tk.1 zf_tasks (by decide) rfl rfl ?_
            refine mn_top (u := .int (nI (rest.length))) (congrArg Value.int (pk_us)) ?_
            refine rm_iald (k := 29) dX12_takeOut_79 tk.1 rfl rfl rfl (show rest.length < 400 from (by omega)) ?_
            refine mn_top (u := .int (nI (t1))) (congrArg Value.int (hpop.1)) ?_
            refine mm_istore_n (L' := [(2, .int (nI (t1))), (0, .ref (o)), (1, .int (nI (rank)))]) dX12_takeOut_80 rfl (by decide) rfl ?_
            refine mm_aload_n dX12_takeOut_81 rfl 1 rfl ?_
            refine rm_getA 30 dX12_takeOut_82 tk.1 zf_taskKind (by decide) rfl ?_
            refine mm_aload_n dX12_takeOut_85 rfl 1 rfl ?_
            refine rm_getI 34 dX12_takeOut_86 tk.1 zf_tasks (by decide) rfl rfl ?_
            refine mn_top (u := .int (nI (rest.length))) (congrArg Value.int (pk_us)) ?_
            refine rm_iald (k := 30) dX12_takeOut_89 tk.1 rfl rfl rfl (show rest.length < 400 from (by omega)) ?_
            refine mn_top (u := .int (nI (k))) (congrArg Value.int (hpop.2.1)) ?_
            refine mm_istore_n (L' := [(3, .int (nI (k))), (2, .int (nI (t1))), (0, .ref (o)), (1, .int (nI (rank)))]) dX12_takeOut_90 rfl (by decide) rfl ?_
            refine mm_aload_n dX12_takeOut_91 rfl 2 rfl ?_
            refine rm_getA 31 dX12_takeOut_92 tk.1 zf_taskFrom (by decide) rfl ?_
            refine mm_aload_n dX12_takeOut_95 rfl 2 rfl ?_
            refine rm_getI 34 dX12_takeOut_96 tk.1 zf_tasks (by decide) rfl rfl ?_
            refine mn_top (u := .int (nI (rest.length))) (congrArg Value.int (pk_us)) ?_
            refine rm_iald (k := 31) dX12_takeOut_99 tk.1 rfl rfl rfl (show rest.length < 400 from (by omega)) ?_
            refine mn_top (u := .int (nI (a))) (congrArg Value.int (hpop.2.2.1)) ?_
            refine mm_istore (L' := [(4, .int (nI (a))), (3, .int (nI (k))), (2, .int (nI (t1))), (0, .ref (o)), (1, .int (nI (rank)))]) dX12_takeOut_100 (by decide) rfl ?_
            refine mm_aload_n dX12_takeOut_102 rfl 3 rfl ?_
            refine rm_getA 32 dX12_takeOut_103 tk.1 zf_taskTo (by decide) rfl ?_
            refine mm_aload_n dX12_takeOut_106 rfl 3 rfl ?_
            refine rm_getI 34 dX12_takeOut_107 tk.1 zf_tasks (by decide) rfl rfl ?_
            refine mn_top (u := .int (nI (rest.length))) (congrArg Value.int (pk_us)) ?_
            refine rm_iald (k := 32) dX12_takeOut_110 tk.1 rfl rfl rfl (show rest.length < 400 from (by omega)) ?_
            refine mn_top (u := .int (nI (b))) (congrArg Value.int (hpop.2.2.2.1)) ?_
            refine mm_istore (L' := [(5, .int (nI (b))), (4, .int (nI (a))), (3, .int (nI (k))), (2, .int (nI (t1))), (0, .ref (o)), (1, .int (nI (rank)))]) dX12_takeOut_111 (by decide) rfl ?_
            refine mm_iload_n dX12_takeOut_113 rfl 3 rfl ?_
            refine mm_iconst (v := nI 3) dX12_takeOut_114 (by decide) ?_
            refine mn_icmp_ne (tgt := 136) dX12_takeOut_115 (by decide) (by omega) (by omega) (fun c115 => ?_) (fun c115 => ?_)
            · refine mm_iload_n dX12_takeOut_136 rfl 3 rfl ?_
              refine mn_if_ne (tgt := 161) dX12_takeOut_137 (by decide) (by omega) (fun c137 => ?_) (fun c137 => ?_)
              · refine mm_iload_n dX12_takeOut_161 rfl 3 rfl ?_
                refine mm_iconst (v := nI 1) dX12_takeOut_162 (by decide) ?_
                refine mn_icmp_ne (tgt := 187) dX12_takeOut_163 (by decide) (by omega) (by omega) (fun c163 => ?_) (fun c163 => ?_)
                · refine mm_iload_n dX12_takeOut_187 rfl 3 rfl ?_
                  refine mm_iconst (v := nI 2) dX12_takeOut_188 (by decide) ?_
                  refine mn_icmp_ne (tgt := 204) dX12_takeOut_189 (by decide) (by omega) (by omega) (fun c189 => ?_) (fun c189 => ?_)
                  · refine mm_aload_n dX12_takeOut_204 rfl 4 rfl ?_
                    refine mm_iload_n dX12_takeOut_205 rfl 2 rfl ?_
                    refine rm_callV (As := [.int (nI (k))]) (rest := []) (d2 := 0) dX12_takeOut_206 tk.1 zc_tell zc_tell_s rfl rfl rfl (Nat.le_of_ble_eq_true rfl) (Nat.le_of_ble_eq_true rfl) (by decide) (tm_tell tk (by show x.1.length < 120; omega) (by omega)) (fun r h1 hq => ?_)
                    obtain ⟨rfl, F1, A1, tk, hf', hF', hA'⟩ := hq
                    have hf := hf.tr hf'
                    have hF := hF.tr hF'
                    have hA := hA.tr hA'
                    have hts : tk_s w sg g T I (t1, k, a, b, rk) (rest, x) = op_t k (rest, x) := by unfold tk_s; dsimp only; rw [if_neg (by omega), if_neg (by omega), if_neg (by omega), if_neg (by omega)]
                    refine mm_goto (tgt := 54) dX12_takeOut_209 (by decide) ?_
                    refine mn_sub [4, 5] rfl ?_
                    exact ihx _ _ _ _ k1 k2 k3 k4 (by rw [hts]; exact tk) hf hF hA
                  · refine mm_aload_n dX12_takeOut_192 rfl 4 rfl ?_
                    refine mm_iload_n dX12_takeOut_193 rfl 2 rfl ?_
                    refine mm_iload dX12_takeOut_194 1 rfl ?_
                    refine mm_iload dX12_takeOut_196 0 rfl ?_
                    omega
                · refine mm_aload_n dX12_takeOut_166 rfl 4 rfl ?_
                  refine mm_iload_n dX12_takeOut_167 rfl 2 rfl ?_
                  refine mm_iload dX12_takeOut_168 1 rfl ?_
                  refine mm_iload dX12_takeOut_170 0 rfl ?_
                  refine mm_aload_n dX12_takeOut_172 rfl 4 rfl ?_
                  refine rm_getA 33 dX12_takeOut_173 tk.1 zf_taskRank (by decide) rfl ?_
                  refine mm_aload_n dX12_takeOut_176 rfl 4 rfl ?_
                  refine rm_getI 34 dX12_takeOut_177 tk.1 zf_tasks (by decide) rfl rfl ?_
                  refine mn_top (u := .int (nI (rest.length))) (congrArg Value.int (pk_us)) ?_
                  refine rm_iald (k := 33) dX12_takeOut_180 tk.1 rfl rfl rfl (show rest.length < 400 from (by omega)) ?_
                  refine mn_top (u := .int (nI (rk))) (congrArg Value.int (hpop.2.2.2.2)) ?_
                  omega
              · refine mm_aload_n dX12_takeOut_140 rfl 4 rfl ?_
                refine mm_iload_n dX12_takeOut_141 rfl 2 rfl ?_
                refine mm_iload dX12_takeOut_142 1 rfl ?_
                refine mm_iload dX12_takeOut_144 0 rfl ?_
                refine mm_aload_n dX12_takeOut_146 rfl 4 rfl ?_
                refine rm_getA 33 dX12_takeOut_147 tk.1 zf_taskRank (by decide) rfl ?_
                refine mm_aload_n dX12_takeOut_150 rfl 4 rfl ?_
                refine rm_getI 34 dX12_takeOut_151 tk.1 zf_tasks (by decide) rfl rfl ?_
                refine mn_top (u := .int (nI (rest.length))) (congrArg Value.int (pk_us)) ?_
                refine rm_iald (k := 33) dX12_takeOut_154 tk.1 rfl rfl rfl (show rest.length < 400 from (by omega)) ?_
                refine mn_top (u := .int (nI (rk))) (congrArg Value.int (hpop.2.2.2.2)) ?_
                omega
            · refine mm_aload_n dX12_takeOut_118 rfl 4 rfl ?_
              refine mm_iload dX12_takeOut_119 1 rfl ?_
              refine mm_aload_n dX12_takeOut_121 rfl 4 rfl ?_
              refine rm_getA 33 dX12_takeOut_122 tk.1 zf_taskRank (by decide) rfl ?_
              refine mm_aload_n dX12_takeOut_125 rfl 4 rfl ?_
              refine rm_getI 34 dX12_takeOut_126 tk.1 zf_tasks (by decide) rfl rfl ?_
              refine mn_top (u := .int (nI (rest.length))) (congrArg Value.int (pk_us)) ?_
              refine rm_iald (k := 33) dX12_takeOut_129 tk.1 rfl rfl rfl (show rest.length < 400 from (by omega)) ?_
              refine mn_top (u := .int (nI (rk))) (congrArg Value.int (hpop.2.2.2.2)) ?_
              omega
  have lv : ∀ (n i : Nat) (V : Nat → Nat) (F1 : Nat → Int32) (A1 : Nat → Nat → Int32) (h1 : mm_H), i + n = 24 → (∀ j : Nat, j < i → V j = 0) → tk_at o F1 G A1 B h1 w sg g T I rd S ([], [], V) → rm_fr o h h1 → tk_F F F1 → tk_A rd A A1 → mm_V (zz_K l D aa b0) 6 yX12_takeOut cX12_takeOut 6 none 22 [(0, .ref (o)), (1, .int (nI (rank))), (2, .int (nI (i)))] [] h1 0 0 (fun r h' => r = none ∧ ∃ (F' : Nat → Int32) (A' : Nat → Nat → Int32) (S' : sc_S), tk_at o F' G A' B h' w sg g T I rd S' (tk_r w sg g T I 100 ([(3, 0, 0, 0, rank)], [], fun _ => 0)) ∧ rm_fr o h h' ∧ tk_F F F' ∧ tk_A rd A A' ∧ (tk_r w sg g T I 100 ([(3, 0, 0, 0, rank)], [], fun _ => 0)).1 = []) := by
    intro n
    induction n with
    | zero =>
      intro i V F1 A1 h1 hin hV tk hf hF hA
      refine mm_iload_n dX12_takeOut_22 rfl 2 rfl ?_
      refine mm_bipush (v := nI 24) dX12_takeOut_23 (by decide) ?_
      refine mn_icmp_ge (tgt := 40) dX12_takeOut_25 (by decide) (by omega) (by omega) (fun c25 => ?_) (fun c25 => ?_)
      · have ha := tk.1
        refine mm_aload_n dX12_takeOut_40 rfl 0 rfl ?_
        refine mm_iconst (v := nI 0) dX12_takeOut_41 (by decide) ?_
        refine rm_putI 34 dX12_takeOut_42 ha hf zf_tasks (by decide) rfl rfl rfl rfl (fun h1 ha hf => ?_)
        have tk := tk_34 (stk := []) tk ha tk.2.2.2.2.2.2.1 rfl
        have hF : tk_F F (upd F1 34 (nI (0))) := hF.tr (fun j _ h => pk_un h)
        have tk := tk_vs (V' := fun _ => 0) tk (fun j hj => hV j (by omega))
        refine mm_aload_n dX12_takeOut_45 rfl 0 rfl ?_
        refine mm_iconst (v := nI 3) dX12_takeOut_46 (by decide) ?_
        refine mm_iconst (v := nI 0) dX12_takeOut_47 (by decide) ?_
        refine mm_iconst (v := nI 0) dX12_takeOut_48 (by decide) ?_
        refine mm_iconst (v := nI 0) dX12_takeOut_49 (by decide) ?_
        refine mm_iload_n dX12_takeOut_50 rfl 1 rfl ?_
        refine rm_callV (As := [.int (nI (3)), .int (nI (0)), .int (nI (0)), .int (nI (0)), .int (nI (rank))]) (rest := []) (d2 := 0) dX12_takeOut_51 tk.1 zc_push zc_push_s rfl rfl rfl (Nat.le_of_ble_eq_true rfl) (Nat.le_of_ble_eq_true rfl) (by decide) (tm_push tk (by (try simp only [op_t, op_p, op_l, op_3, List.length_append, List.length_cons, List.length_nil]); omega)) (fun r h1 hq => ?_)
        obtain ⟨rfl, F1, A1, tk, hf', hF', hA'⟩ := hq
        have hf := hf.tr hf'
        have hF := hF.tr hF'
        have hA := hA.tr hA'
        refine mn_sub [0, 1] rfl ?_
        refine lp 100 ([(3, 0, 0, 0, rank)], [], fun _ => 0) _ _ _ _ ?_ ?_ ?_ rfl tk hf hF hA
        · rw [tws_cons, tws_nil, tw_3]; have := hc.2.2.2.1; omega
        · exact fa1 (Or.inl ⟨rfl, Nat.zero_le _, hrk, hri⟩) fa0
        · show 0 + _ ≤ 100; rw [tws_cons, tws_nil, tw_3]; have := hc.2.2.2.1; omega
      · omega
    | succ n ih =>
      intro i V F1 A1 h1 hin hV tk hf hF hA
      refine mm_iload_n dX12_takeOut_22 rfl 2 rfl ?_
      refine mm_bipush (v := nI 24) dX12_takeOut_23 (by decide) ?_
      refine mn_icmp_ge (tgt := 40) dX12_takeOut_25 (by decide) (by omega) (by omega) (fun c25 => ?_) (fun c25 => ?_)
      · omega
      · refine mm_aload_n dX12_takeOut_28 rfl 0 rfl ?_
        refine mm_iload_n dX12_takeOut_29 rfl 2 rfl ?_
        refine mm_iconst (v := nI 0) dX12_takeOut_30 (by decide) ?_
        refine rm_callV (As := [.int (nI (i)), .int (nI (0))]) (rest := []) (d2 := 0) dX12_takeOut_31 tk.1 zc_last zc_last_s rfl rfl rfl (Nat.le_of_ble_eq_true rfl) (Nat.le_of_ble_eq_true rfl) (by decide) (tm_last tk (by omega)) (fun r h1 hq => ?_)
        obtain ⟨rfl, F1, A1, tk, hf', hF', hA'⟩ := hq
        have hf := hf.tr hf'
        have hF := hF.tr hF'
        have hA := hA.tr hA'
        refine mn_iinc (m := 1) (L' := [(2, .int (nI (i + 1))), (0, .ref (o)), (1, .int (nI (rank)))]) dX12_takeOut_34 (by decide) 2 rfl (by decide) rfl ?_
        refine mm_goto (tgt := 22) dX12_takeOut_37 (by decide) ?_
        refine mn_sub [1, 2, 0] rfl ?_
        exact ih (i + 1) (rm_up V i 0) _ _ _ (by omega) (fun j hj => by by_cases e : j = i; rw [e, rm_up_s]; rw [rm_up_n e]; exact hV j (by omega)) tk hf hF hA
  have hf : rm_fr o h h := rm_fr.rf
  refine mm_aload_n dX12_takeOut_0 rfl 0 rfl ?_
  refine rm_getA 36 dX12_takeOut_1 ha zf_formMany (by decide) rfl ?_
  refine mm_aload_n dX12_takeOut_4 rfl 0 rfl ?_
  refine rm_getI 41 dX12_takeOut_5 ha zf_reading (by decide) rfl rfl ?_
  refine mn_top (u := .int (nI (rd))) (congrArg Value.int ((h41))) ?_
  refine mm_iconst (v := nI 0) dX12_takeOut_8 (by decide) ?_
  refine rm_iast (k := 36) dX12_takeOut_9 ha hf rfl rfl rfl (show rd < 1001 from (by omega)) (fun h ha hf => ?_)
  refine mm_aload_n dX12_takeOut_10 rfl 0 rfl ?_
  refine rm_getA 37 dX12_takeOut_11 ha zf_strain (by decide) rfl ?_
  refine mm_aload_n dX12_takeOut_14 rfl 0 rfl ?_
  refine rm_getI 41 dX12_takeOut_15 ha zf_reading (by decide) rfl rfl ?_
  refine mn_top (u := .int (nI (rd))) (congrArg Value.int ((h41))) ?_
  refine mm_iconst (v := nI 0) dX12_takeOut_18 (by decide) ?_
  refine rm_iast (k := 37) dX12_takeOut_19 ha hf rfl rfl rfl (show rd < 1001 from (by omega)) (fun h ha hf => ?_)
  generalize hA1 : (rm_up (rm_up A 36 (upd (A 36) (rd) (nI (0)))) 37 (upd ((rm_up A 36 (upd (A 36) (rd) (nI (0)))) 37) (rd) (nI (0)))) = A1 at ha
  have hA : tk_A rd A A1 := by
    refine ⟨fun j hj => ?_, fun i _ => ?_, fun i hi => ⟨?_, ?_⟩, fun i _ => ?_⟩ <;> rw [← hA1]
    · rw [rm_up_n (by omega), rm_up_n (by omega)]
    · rw [rm_up_n (by decide), rm_up_n (by decide)]
    · rw [rm_up_n (by decide), rm_up_s, pk_un hi]
    · rw [rm_up_s, pk_un hi, rm_up_n (by decide)]
    · rw [rm_up_n (by decide), rm_up_n (by decide)]
  have tk : tk_at o F G A1 B h w sg g T I rd S ([], [], V) := by
    refine ⟨ha, cx_tk tk_F.rf hA hx, iw_tk hA hI, hs, ⟨h41, hrd⟩, h34, (fun i t h => by cases h), ?_, ?_, (fun i f h => by cases h), ?_⟩
    · rw [← hA1, rm_up_n (by decide), rm_up_s, pk_us]; rfl
    · rw [← hA1, rm_up_s, pk_us]; rfl
    · rw [← hA1, rm_up_n (by decide), rm_up_n (by decide)]; exact hV
  refine mm_iconst (v := nI 0) dX12_takeOut_20 (by decide) ?_
  refine mm_istore_n (L' := [(2, .int (nI (0))), (0, .ref (o)), (1, .int (nI (rank)))]) dX12_takeOut_21 rfl (by decide) rfl ?_
  refine mn_sub [1, 2, 0] rfl ?_
  exact lv 24 0 V F A1 _ (by omega) (fun j hj => by omega) tk hf tk_F.rf hA
