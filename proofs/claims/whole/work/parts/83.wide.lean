section WDR
variable {p : Program} {l : Launch} {e : Env} {R : Room} {s : State} {m : MethodId} {args : Array Value} {below : List Frame} {meth : Method} {c : Code} {H : Heap} {locs : List Loc} {cells slots : Nat} {y : MethodName} {bytes cc : ByteArray} {maxL nL mc ms n index : Nat} {ret : Option FieldType} {ws : List Cond} {rm : Room} {Pc : Array Value → State → Prop} {Qc : Array Value → State → Outcome → State → Prop} {free : Addr → Prop} {Ts : List Cond} {own C : String} {b : Addr} {As rest : List Value} {g : JFrame}
theorem wd_runV (S : CallFix p m c cc nL s args Ts own) (hM : Met l y ws rm Pc Qc mc ms free) (cw : CallW R s args own C index y bytes maxL ret ws rm mc ms n) (hlo : 16 + (maxL + 11) + rm.locals ≤ R.locals) (hp : PreV s H C b Pc As)
    (hg : g.method = m) (hn : As.length = n) (hsize : g.locals.size = nL) (hstack : g.stack = As.reverse ++ .ref b :: rest) (hW : 2 * g.monitorRoom + (rest.map fun v => v.category).sum ≤ 16) (hdg : decode cc g.pc = .ok (.invokevirtual index, 3)) (hf : cells + mc ≤ R.cells ∧ slots + ms ≤ R.slots) :
    va_Run p l e R s m args below meth c H locs cells slots mc ms g rest (Qc (Value.ref b :: As).toArray) (free) := by
  obtain ⟨⟨hrc, hrs, hfr, -, hws, hcw, hcode, hini, hy, hlen, hl⟩, hin, hse⟩ := cw
  have hK : Back l R p e below s args y 3 16 (PreOf R mc ms Pc) (PostOf Qc mc ms free) := back_of (bytes := bytes) (maxL := maxL) (ret := ret) hM hp.1 hrc hrs hfr hlo hws hcw (fun a' U hW => word_at hW (Or.inl (by first | rfl | simp [Cond.onTables, Cond.keeps, Cond.steady])) hini)
  obtain ⟨hx, hb, hml, ho, -⟩ := S
  obtain ⟨-, ⟨cellB, hcB, hoB, hclB⟩, hPc⟩ := hp
  intro T hT X
  obtain ⟨v, vm₁, ⟨U', l2, c2, s2⟩, hW₁, X', ⟨g', mk, t, L, e1, e2, hq, h1, hL, h2, h3⟩, st⟩ := callV X hx (C := C) (bytes := bytes) (maxL := maxL) (ret := ret) ho hl hin hse hcode hy hK (by rw [hT]; exact hcB) hoB hclB hg (hsize.trans hml.symm) (argsL := As) (rest := rest) (fun sig h => hn.trans (hlen sig h)) hstack hW (by rw [hb]; exact hdg)
    (fun vm₁ hW₁ => ⟨hf.1, hf.2, hPc (T.setVm vm₁) hT hW₁⟩)
  dsimp only [Pt.U, Pt.locs, Pt.cells, Pt.slots] at X' e1 e2 h1 h2 h3 st
  subst h1; subst h2; subst h3
  exact ⟨v, (T.setVm vm₁).calling g' mk (Value.ref b :: As).toArray, t, U', L, hT, X', hL, e1, e2, hq, st⟩
theorem wd_runS (S : CallFix p m c cc nL s args Ts own) (hM : Met l y ws rm Pc Qc mc ms free) (cw : CallB R s args own index y bytes maxL ret ws rm mc ms n ∧ (Cond.static y).before args s = true) (hlo : 16 + (maxL + 11) + rm.locals ≤ R.locals) (hp : PreS s H Pc As)
    (hg : g.method = m) (hn : As.length = n) (hsize : g.locals.size = nL) (hstack : g.stack = As.reverse ++ rest) (hW : 2 * g.monitorRoom + (rest.map fun v => v.category).sum ≤ 16) (hdg : decode cc g.pc = .ok (.invokestatic index, 3)) (hf : cells + mc ≤ R.cells ∧ slots + ms ≤ R.slots) :
    va_Run p l e R s m args below meth c H locs cells slots mc ms g rest (Qc As.toArray) (free) := by
  obtain ⟨⟨hrc, hrs, hfr, -, hws, hcw, hcode, hini, hy, hlen, hl⟩, hstt⟩ := cw
  have hK : Back l R p e below s args y 3 16 (PreOf R mc ms Pc) (PostOf Qc mc ms free) := back_of (bytes := bytes) (maxL := maxL) (ret := ret) hM hp.1 hrc hrs hfr hlo hws hcw (fun a' U hW => word_at hW (Or.inl (by first | rfl | simp [Cond.onTables, Cond.keeps, Cond.steady])) hini)
  obtain ⟨hx, hb, hml, ho, -⟩ := S
  intro T hT X
  obtain ⟨v, vm₁, ⟨U', l2, c2, s2⟩, hW₁, X', ⟨g', mk, t, L, e1, e2, hq, h1, hL, h2, h3⟩, st⟩ := callS X hx (bytes := bytes) (maxL := maxL) (ret := ret) ho hl hstt hini hcode hy hK hg (hsize.trans hml.symm) (argsL := As) (rest := rest) (fun sig h => hn.trans (hlen sig h)) hstack hW (by rw [hb]; exact hdg)
    (fun vm₁ hW₁ => ⟨hf.1, hf.2, hp.2 (T.setVm vm₁) hT hW₁⟩)
  dsimp only [Pt.U, Pt.locs, Pt.cells, Pt.slots] at X' e1 e2 h1 h2 h3 st
  subst h1; subst h2; subst h3
  exact ⟨v, (T.setVm vm₁).calling g' mk As.toArray, t, U', L, hT, X', hL, e1, e2, hq, st⟩
end WDR
section MMR
variable {K : mm_K} {d : Nat} {y : MethodName} {cc : ByteArray} {nL : Nat} {rt : Option FieldType} {pc : Nat} {L : List (Nat × Value)} {st : List Value} {h : mm_H} {kc ks : Nat} {Q : Option Value → mm_H → Prop}
theorem mm_callSw {idx n k1 s1 d2 : Nat} {y2 : MethodName} {cc2 : ByteArray} {nL2 : Nat} {rt2 : Option FieldType} {As rest : List Value} {Q1 : Option Value → mm_H → Prop} {st0 : List Value} (hd : decode cc pc = .ok (.invokestatic idx, 3)) (hG : mm_G K) (hC : mm_C K y.cls idx y2 cc2 nL2 rt2 n (.static y2)) (hst : st0 = As.reverse ++ rest) (hn : As.length = n) (hcat : (rest.map fun v => v.category).sum ≤ 16) (hlen : (lg_sl (mm_S K As)).length ≤ nL2)
    (hdd : d2 + 1 ≤ d ∧ 27 + nL2 + 39 * d2 ≤ 39 * d) (hV : mm_V K d2 y2 cc2 nL2 rt2 0 (lv_args 0 As) [] h k1 s1 Q1) (hk1 : k1 ≤ kc) (hs1 : s1 ≤ ks)
    (k : ∀ (r : Option Value) (h1 : mm_H), Q1 r h1 → mm_V K d y cc nL rt (pc + 3) L (r.toList ++ rest) h1 (kc - k1) (ks - s1) Q) : mm_V K d y cc nL rt pc L st0 h kc ks Q := by
  intro p e R s m args below meth c H locs ls cells slots mc ms X g1 g2 g3 g4 hR hS hl
  obtain ⟨c1, c2, c4, c5, c6, c7⟩ := hC
  have hts := X.2.2.2.2.2.2.2.1
  have hM := mm_met (As := As) c1 hlen hV
  refine mm_goon (wd_runS (As := mm_S K As) (rest := mm_S K rest) ⟨X.1, X.2.1, X.2.2.1, X.2.2.2.2.2.1, hts⟩ hM ⟨callB_of n hts (mm_good hG (fun w hw => by
    rcases List.mem_cons.mp hw with h | h
    · rw [h]; exact c7
    · exact h)) rfl rfl rfl (hts _ c6) (hts _ c4) c2 ⟨by show d2 + 1 ≤ R.frames; have := X.2.2.2.2.2.2.2.2.2.1.1; omega, by show 8 + (nL2 + 11) + 39 * d2 ≤ R.locals; have := X.2.2.2.2.2.2.2.2.2.1.2; omega⟩, hts _ c5⟩ (by show 16 + (nL2 + 11) + 39 * d2 ≤ R.locals; have := X.2.2.2.2.2.2.2.2.2.1.2; omega) ⟨mm_blind, fun U hU hW => ⟨rfl, by rw [hU]; exact hR, va_K.moved hW.alike X.2.2.2.2.2.2.2.2.1, mm_Nw_w hW X.2.2.2.2.2.2.2.2.2.2.2⟩⟩ rfl (by unfold mm_S; rw [List.length_map]; exact hn) hl.1 (by show mm_S K st0 = _; rw [hst, mm_S_app, mm_S_rev]) (by show 2 * 0 + ((mm_S K rest).map fun v => v.category).sum ≤ 16; rw [mm_catS]; omega) hd ⟨by omega, by omega⟩) hS (fun r h1 H1 locs1 hq hR1 hS1 => ?_)
  rw [mm_opt]
  exact k r h1 hq p e R s m args below meth c H1 locs1 ls (cells + k1) (slots + s1) mc ms X (by omega) (by omega) g3 g4 hR1 hS1 hl
theorem mm_callVw {idx n k1 s1 o ci N d2 : Nat} {T : u_T} {fs : List Value} {y2 : MethodName} {cc2 : ByteArray} {nL2 : Nat} {rt2 : Option FieldType} {As rest : List Value} {Q1 : Option Value → mm_H → Prop} {st0 : List Value} (hd : decode cc pc = .ok (.invokevirtual idx, 3)) (hG : mm_G K) (hC : mm_C K y.cls idx y2 cc2 nL2 rt2 n (.instanceMethod y2)) (hsel : Cond.selects y2.cls y2 y2 ∈ K.2.2.2.2.1) (hcl : K.2.2.1[ci]? = some (y2.cls, T, N)) (ho : h.2 o = some (.inr (ci, fs))) (hst : st0 = As.reverse ++ .ref o :: rest) (hn : As.length = n) (hcat : (rest.map fun v => v.category).sum ≤ 16) (hlen : (lg_sl (mm_S K (.ref o :: As))).length ≤ nL2)
    (hdd : d2 + 1 ≤ d ∧ 27 + nL2 + 39 * d2 ≤ 39 * d) (hV : mm_V K d2 y2 cc2 nL2 rt2 0 (lv_args 0 (.ref o :: As)) [] h k1 s1 Q1) (hk1 : k1 ≤ kc) (hs1 : s1 ≤ ks)
    (k : ∀ (r : Option Value) (h1 : mm_H), Q1 r h1 → mm_V K d y cc nL rt (pc + 3) L (r.toList ++ rest) h1 (kc - k1) (ks - s1) Q) : mm_V K d y cc nL rt pc L st0 h kc ks Q := by
  intro p e R s m args below meth c H locs ls cells slots mc ms X g1 g2 g3 g4 hR hS hl
  obtain ⟨c1, c2, c4, c5, c6, c7⟩ := hC
  have hts := X.2.2.2.2.2.2.2.1
  have hK := X.2.2.2.2.2.2.2.2.1
  have hM := mm_met (As := .ref o :: As) c1 hlen hV
  have hP : va_P K.2.1 K.2.2.1 [(K.2.2.2.2.2 + o, .inr (ci, fs.map (mm_sh K.2.2.2.2.2)))] H := fun k q hk => by
    cases k with
    | zero => cases hk; exact hR.2 o _ ho
    | succ k => simp at hk
  refine mm_goon (wd_runV (C := y2.cls) (b := K.2.2.2.2.2 + o) (As := mm_S K As) (rest := mm_S K rest) ⟨X.1, X.2.1, X.2.2.1, X.2.2.2.2.2.1, hts⟩ hM ⟨callB_of n hts (mm_good hG (fun w hw => by
    rcases List.mem_cons.mp hw with h | h
    · rw [h]; exact c7
    · exact h)) rfl rfl rfl (hts _ c6) (hts _ c4) c2 ⟨by show d2 + 1 ≤ R.frames; have := X.2.2.2.2.2.2.2.2.2.1.1; omega, by show 8 + (nL2 + 11) + 39 * d2 ≤ R.locals; have := X.2.2.2.2.2.2.2.2.2.1.2; omega⟩, hts _ c5, hts _ hsel⟩ (by show 16 + (nL2 + 11) + 39 * d2 ≤ R.locals; have := X.2.2.2.2.2.2.2.2.2.1.2; omega) ⟨mm_blind, va_recv hK hP (ci := ci) (q0 := 0) hcl rfl, fun U hU hW => ⟨rfl, by rw [hU]; exact hR, va_K.moved hW.alike hK, mm_Nw_w hW X.2.2.2.2.2.2.2.2.2.2.2⟩⟩ rfl (by unfold mm_S; rw [List.length_map]; exact hn) hl.1 (by show mm_S K st0 = _; rw [hst, mm_S_app, mm_S_rev]; rfl) (by show 2 * 0 + ((mm_S K rest).map fun v => v.category).sum ≤ 16; rw [mm_catS]; omega) hd ⟨by omega, by omega⟩) hS (fun r h1 H1 locs1 hq hR1 hS1 => ?_)
  rw [mm_opt]
  exact k r h1 hq p e R s m args below meth c H1 locs1 ls (cells + k1) (slots + s1) mc ms X (by omega) (by omega) g3 g4 hR1 hS1 hl
end MMR
section CMW
variable {l : Launch} {D : va_G} {aa : Nat → ClassId} {b0 : Nat} {d : Nat} {y : MethodName} {cc : ByteArray} {nL : Nat} {rt : Option FieldType} {pc : Nat} {L : List (Nat × Value)} {st : List Value} {h h0 : mm_H} {kc ks : Nat} {Q : Option Value → mm_H → Prop} {o : Nat} {X : Nat → Nat → Int32} {Y : Nat → Nat → Int64} {rl : Option Nat}
theorem cm_callVw {idx n d2 a ci N : Nat} {T : u_T} {y2 : MethodName} {cc2 : ByteArray} {nL2 : Nat} {rt2 : Option FieldType} {As rest : List Value} {Q1 : Option Value → mm_H → Prop} {st0 : List Value} (hd : decode cc pc = .ok (.invokevirtual idx, 3)) (ha : cm_at o X Y rl h) (h1 : a < cm_n) (hs : cm_sh a = (0, ci, N, 0)) (hcl : vwCl[ci]? = some (y2.cls, T, N)) (hC : mm_C (zz_K l D aa b0) y.cls idx y2 cc2 nL2 rt2 n (.instanceMethod y2)) (hsel : Cond.selects y2.cls y2 y2 ∈ wsL_law) (hst : st0 = As.reverse ++ .ref (o + a) :: rest) (hn : As.length = n) (hcat : (rest.map fun v => v.category).sum ≤ 16) (hlen : (lg_sl (mm_S (zz_K l D aa b0) (.ref (o + a) :: As))).length ≤ nL2) (hdd : d2 + 1 ≤ d ∧ 27 + nL2 + 39 * d2 ≤ 39 * d)
    (hV : mm_V (zz_K l D aa b0) d2 y2 cc2 nL2 rt2 0 (lv_args 0 (.ref (o + a) :: As)) [] h 0 0 Q1)
    (kk : ∀ (r : Option Value) (h1 : mm_H), Q1 r h1 → mm_V (zz_K l D aa b0) d y cc nL rt (pc + 3) L (r.toList ++ rest) h1 kc ks Q) : mm_V (zz_K l D aa b0) d y cc nL rt pc L st0 h kc ks Q :=
  mm_callVw hd zz_G hC hsel hcl (cm_obj ha h1 hs) hst hn hcat hlen hdd hV (Nat.zero_le _) (Nat.zero_le _) kk
theorem cm_callVrw {idx n d2 a ci N : Nat} {T : u_T} {y2 : MethodName} {cc2 : ByteArray} {nL2 : Nat} {rt2 : Option FieldType} {As rest : List Value} {st0 : List Value} {v : Value} (hd : decode cc pc = .ok (.invokevirtual idx, 3)) (ha : cm_at o X Y rl h) (h1 : a < cm_n) (hs : cm_sh a = (0, ci, N, 0)) (hcl : vwCl[ci]? = some (y2.cls, T, N)) (hC : mm_C (zz_K l D aa b0) y.cls idx y2 cc2 nL2 rt2 n (.instanceMethod y2)) (hsel : Cond.selects y2.cls y2 y2 ∈ wsL_law) (hst : st0 = As.reverse ++ .ref (o + a) :: rest) (hn : As.length = n) (hcat : (rest.map fun v => v.category).sum ≤ 16) (hlen : (lg_sl (mm_S (zz_K l D aa b0) (.ref (o + a) :: As))).length ≤ nL2) (hdd : d2 + 1 ≤ d ∧ 27 + nL2 + 39 * d2 ≤ 39 * d)
    (hV : mm_V (zz_K l D aa b0) d2 y2 cc2 nL2 rt2 0 (lv_args 0 (.ref (o + a) :: As)) [] h 0 0 (fun r h' => h' = h ∧ r = some v))
    (kk : mm_V (zz_K l D aa b0) d y cc nL rt (pc + 3) L (v :: rest) h kc ks Q) : mm_V (zz_K l D aa b0) d y cc nL rt pc L st0 h kc ks Q :=
  cm_callVw hd ha h1 hs hcl hC hsel hst hn hcat hlen hdd hV (fun r h1 hq => by rw [hq.1, hq.2]; exact kk)
theorem rm_callSw {idx n d2 : Nat} {y2 : MethodName} {cc2 : ByteArray} {nL2 : Nat} {rt2 : Option FieldType} {As rest : List Value} {Q1 : Option Value → mm_H → Prop} {st0 : List Value} (hd : decode cc pc = .ok (.invokestatic idx, 3)) (hC : mm_C (zz_K l D aa b0) y.cls idx y2 cc2 nL2 rt2 n (.static y2)) (hst : st0 = As.reverse ++ rest) (hn : As.length = n) (hcat : (rest.map fun v => v.category).sum ≤ 16) (hlen : (lg_sl (mm_S (zz_K l D aa b0) As)).length ≤ nL2) (hdd : d2 + 1 ≤ d ∧ 27 + nL2 + 39 * d2 ≤ 39 * d)
    (hV : mm_V (zz_K l D aa b0) d2 y2 cc2 nL2 rt2 0 (lv_args 0 As) [] h 0 0 Q1)
    (kk : ∀ (r : Option Value) (h1 : mm_H), Q1 r h1 → mm_V (zz_K l D aa b0) d y cc nL rt (pc + 3) L (r.toList ++ rest) h1 kc ks Q) : mm_V (zz_K l D aa b0) d y cc nL rt pc L st0 h kc ks Q :=
  mm_callSw hd zz_G hC hst hn hcat hlen hdd hV (Nat.zero_le _) (Nat.zero_le _) kk
theorem rm_callSrw {idx n d2 : Nat} {y2 : MethodName} {cc2 : ByteArray} {nL2 : Nat} {rt2 : Option FieldType} {As rest : List Value} {st0 : List Value} {v : Value} (hd : decode cc pc = .ok (.invokestatic idx, 3)) (hC : mm_C (zz_K l D aa b0) y.cls idx y2 cc2 nL2 rt2 n (.static y2)) (hst : st0 = As.reverse ++ rest) (hn : As.length = n) (hcat : (rest.map fun v => v.category).sum ≤ 16) (hlen : (lg_sl (mm_S (zz_K l D aa b0) As)).length ≤ nL2) (hdd : d2 + 1 ≤ d ∧ 27 + nL2 + 39 * d2 ≤ 39 * d)
    (hV : mm_V (zz_K l D aa b0) d2 y2 cc2 nL2 rt2 0 (lv_args 0 As) [] h 0 0 (fun r h' => h' = h ∧ r = some v))
    (kk : mm_V (zz_K l D aa b0) d y cc nL rt (pc + 3) L (v :: rest) h kc ks Q) : mm_V (zz_K l D aa b0) d y cc nL rt pc L st0 h kc ks Q :=
  rm_callSw hd hC hst hn hcat hlen hdd hV (fun r h1 hq => by rw [hq.1, hq.2]; exact kk)
end CMW
