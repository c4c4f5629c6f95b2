section MMR
variable {K : mm_K} {d : Nat} {y : MethodName} {cc : ByteArray} {nL : Nat} {rt : Option FieldType} {pc : Nat} {L : List (Nat × Value)} {st : List Value} {h : mm_H} {kc ks : Nat} {Q : Option Value → mm_H → Prop}
theorem mm_aloadN {i : Nat} (hd : decode cc pc = .ok (.aload i, 2)) (j : Nat) (hj : L[j]? = some (i, .null)) (k : mm_V K d y cc nL rt (pc + 2) L (.null :: st) h kc ks Q) : mm_V K d y cc nL rt (pc) L (st) h kc ks Q := by
  intro p e R s m args below meth c H locs ls cells slots mc ms X g1 g2 g3 g4 hR hS hl
  exact lv_aloadN X.1 X.2.1 hd (mm_L_at hl j hj) (k p e R s m args below meth c H locs ls cells slots mc ms X g1 g2 g3 g4 hR hS hl)
theorem mm_aloadN_n {i : Fin 4} {i0 : Nat} (hd : decode cc pc = .ok (.aload_n i, 1)) (hi : (i : Nat) = i0) (j : Nat) (hj : L[j]? = some (i0, .null)) (k : mm_V K d y cc nL rt (pc + 1) L (.null :: st) h kc ks Q) : mm_V K d y cc nL rt (pc) L (st) h kc ks Q := by
  intro p e R s m args below meth c H locs ls cells slots mc ms X g1 g2 g3 g4 hR hS hl
  exact lv_aload_nN X.1 X.2.1 hd hi (mm_L_at hl j hj) (k p e R s m args below meth c H locs ls cells slots mc ms X g1 g2 g3 g4 hR hS hl)
theorem mm_astoreN {i : Nat} {L' : List (Nat × Value)} (hd : decode cc pc = .ok (.astore i, 2)) (hn : i < nL) (hL : (i, Value.null) :: L.filter (fun q => !(q.1 == i) && !(q.1 + 1 == i && q.2.category == 2)) = L') (k : mm_V K d y cc nL rt (pc + 2) L' (st) h kc ks Q) : mm_V K d y cc nL rt (pc) L (.null :: st) h kc ks Q := by
  intro p e R s m args below meth c H locs ls cells slots mc ms X g1 g2 g3 g4 hR hS hl
  exact lv_astoreN X.1 X.2.1 hd hl hn (mm_st1 K i Value.null L) (fun ls hl => k p e R s m args below meth c H locs ls cells slots mc ms X g1 g2 g3 g4 hR hS (by rw [← hL]; exact hl))
theorem mm_astoreN_n {i0 : Fin 4} {i : Nat} {L' : List (Nat × Value)} (hd : decode cc pc = .ok (.astore_n i0, 1)) (hi : (i0 : Nat) = i) (hn : i < nL) (hL : (i, Value.null) :: L.filter (fun q => !(q.1 == i) && !(q.1 + 1 == i && q.2.category == 2)) = L') (k : mm_V K d y cc nL rt (pc + 1) L' (st) h kc ks Q) : mm_V K d y cc nL rt (pc) L (.null :: st) h kc ks Q := by
  intro p e R s m args below meth c H locs ls cells slots mc ms X g1 g2 g3 g4 hR hS hl
  exact lv_astore_nN X.1 X.2.1 hd hi hl hn (mm_st1 K i Value.null L) (fun ls hl => k p e R s m args below meth c H locs ls cells slots mc ms X g1 g2 g3 g4 hR hS (by rw [← hL]; exact hl))
theorem mm_aald {t n a v : Nat} {C : String} {f : Nat → Option Nat} {i : Int32} (hd : decode cc pc = .ok (.aaload, 1)) (ht : mm_T K t (.object C)) (ha : h.2 a = some (.inl (t, n, .inr (.inr (.inr (.inr f)))))) (hin : vp_in i n) (hv : f i.toNatClampNeg = some v) (k : mm_V K d y cc nL rt (pc + 1) L (.ref v :: st) h kc ks Q) : mm_V K d y cc nL rt (pc) L (.int i :: .ref a :: st) h kc ks Q := by
  intro p e R s m args below meth c H locs ls cells slots mc ms X g1 g2 g3 g4 hR hS hl
  obtain ⟨cA, hcA⟩ := ht
  have hP : va_P K.2.1 K.2.2.1 [(K.2.2.2.2.2 + a, .inl (cA, n, .inr (.inr (.inr (.inr (fun j => (f j).map (fun q => K.2.2.2.2.2 + q)))))))] H := fun k q hk => by
    cases k with
    | zero =>
      cases hk
      have h1 : va_at K.2.1 K.2.2.1 (K.2.2.2.2.2 + a, .inl (mm_cA K.2.2.2.1 t, n, .inr (.inr (.inr (.inr (fun j => (f j).map (fun q => K.2.2.2.2.2 + q))))))) H := hR.2 a _ ha
      rw [show mm_cA K.2.2.2.1 t = cA from mm_cA_at hcA] at h1
      exact h1
    | succ k => simp at hk
  refine va_aldq X.1 X.2.1 X.2.2.2.2.2.2.2.2.1 hP 0 t rfl hcA hin hd ?_
  rw [hv]
  exact k p e R s m args below meth c H locs ls cells slots mc ms X g1 g2 g3 g4 hR hS hl
theorem mm_aast {t n a v ci : Nat} {r : vw_C} {fs : List Value} {f : Nat → Option Nat} {i : Int32} (hd : decode cc pc = .ok (.aastore, 1)) (ht : mm_T K t (.object r.1)) (ha : h.2 a = some (.inl (t, n, .inr (.inr (.inr (.inr f)))))) (hv : h.2 v = some (.inr (ci, fs))) (hc : K.2.2.1[ci]? = some r) (hin : vp_in i n) (k : mm_V K d y cc nL rt (pc + 1) L (st) (mm_set h a (.inl (t, n, .inr (.inr (.inr (.inr (va_up f i.toNatClampNeg (some v)))))))) kc ks Q) : mm_V K d y cc nL rt (pc) L (.ref v :: .int i :: .ref a :: st) h kc ks Q := by
  intro p e R s m args below meth c H locs ls cells slots mc ms X g1 g2 g3 g4 hR hS hl
  obtain ⟨cA, hcA⟩ := ht
  have hK := X.2.2.2.2.2.2.2.2.1
  have h1 : H[K.2.2.2.2.2 + a]? = some (vp_cell cA (n, .inr (.inr (.inr (.inr (fun j => (f j).map (fun q => K.2.2.2.2.2 + q))))))) := by
    have h1 : va_at K.2.1 K.2.2.1 (K.2.2.2.2.2 + a, .inl (mm_cA K.2.2.2.1 t, n, .inr (.inr (.inr (.inr (fun j => (f j).map (fun q => K.2.2.2.2.2 + q))))))) H := hR.2 a _ ha
    rw [show mm_cA K.2.2.2.1 t = cA from mm_cA_at hcA] at h1
    exact h1
  have hlt : i.toNatClampNeg < n := Nat.not_le.mp fun q => hin (Or.inr q)
  have h0 : ¬ i < 0 := fun q => hin (Or.inl q)
  obtain ⟨r', hr', cellV, g1', g2', g3', -⟩ := hR.2 v _ hv
  have hcls := (hK.1 ci r hc).2
  obtain ⟨kA, comp, k1, k2, k3, -⟩ := (hK.2 t _ hcA).2
  have hcomp : comp = K.2.1.1 ci := Option.some.inj (k3.symm.trans hcls.1)
  subst hcomp
  obtain ⟨kC, hkC, -⟩ := hcls.2
  refine W.aast X.1 X.2.1 h1 (fun q h => by cases h) (fun h => by cases h) k1 k2 rfl hkC ⟨h0, by show _ < (arrV _ _ _).slots.size; rw [arrV_size]; exact hlt⟩ g1' (fun q h => by rw [g3'] at h; cases h) (by rw [g2']; exact hkC) (by rw [g2']; exact va_assign hcls) rfl rfl hd fun H1 e1 z oq => ?_
  refine k p e R s m args below meth c H1 _ ls cells slots mc ms X g1 g2 g3 g4 (hR.set (a := a) ?_ z oq) (hS.put z oq (Nat.le_add_right _ _)) hl
  show H1[K.2.2.2.2.2 + a]? = some (vp_cell (mm_cA K.2.2.2.1 t) (n, .inr (.inr (.inr (.inr (fun j => (va_up f i.toNatClampNeg (some v) j).map (fun q => K.2.2.2.2.2 + q)))))))
  rw [e1, show mm_cA K.2.2.2.1 t = cA from mm_cA_at hcA]
  rw [vp_cell_q, vp_cell_q, arrV_store]
  congr 2
  funext q
  by_cases hq : q = i.toNatClampNeg
  · subst hq
    simp [updV, va_up, va_rf]
  · simp [updV, va_up, hq]
theorem mm_anew {t N' idx : Nat} {C : String} {n : Int32} (hd : decode cc pc = .ok (.anewarray idx, 3)) (ht : mm_T K t (.object C)) (h1 : Cond.classLink y.cls idx C ∈ K.2.2.2.2.1) (h2 : Cond.arrayOver (.object C) ∈ mm_N) (hn : ¬ n < 0) (hN : n.toNatClampNeg = N') (hb : N' * 4 ≤ 536870912) (hkc : 1 ≤ kc) (hks : N' ≤ ks)
    (k : mm_V K d y cc nL rt (pc + 3) L (.ref h.1 :: st) (mm_new h (.inl (t, N', .inr (.inr (.inr (.inr (fun _ => none))))))) (kc - 1) (ks - N') Q) : mm_V K d y cc nL rt pc L (.int n :: st) h kc ks Q := by
  intro p e R s m args below meth c H locs ls cells slots mc ms X g1 g2 g3 g4 hR hS hl
  have hts := X.2.2.2.2.2.2.2.1
  have hK := X.2.2.2.2.2.2.2.2.1
  obtain ⟨cA, hcA⟩ := ht
  subst hN
  refine W.anew X.1 X.2.1 X.2.2.2.2.2.1 (hts _ h1) (va_AO.use (X.2.2.2.2.2.2.2.2.2.2.2 _ h2)) rfl hd rfl hn hb (by omega) (by omega) fun cA' kA comp f1 f2 f3 f4 => ?_
  have hc : cA' = cA := by
    obtain ⟨_, _, -, -, -, k4⟩ := (hK.2 t _ hcA).2
    exact Option.some.inj (f1.symm.trans k4)
  subst hc
  generalize hH1 : H.push ({ cls := cA', slots := Array.replicate n.toNatClampNeg .null, vm := .none } : Cell) = H1
  have z1 : H1.size = H.size + 1 := by rw [← hH1, Array.size_push]
  have e1 : H1[H.size]? = some (arrV cA' n.toNatClampNeg (fun _ => .null)) := by rw [← hH1, Array.getElem?_push_size, ← arrV_new]
  have o1 : ∀ q : Nat, q < H.size → H1[q]? = H[q]? := fun q hq => by rw [← hH1, Array.getElem?_push, if_neg (Nat.ne_of_lt hq)]
  rw [hR.1] at e1 ⊢
  refine k p e R s m args below meth c H1 locs ls (cells + 1) (slots + n.toNatClampNeg) mc ms X (by omega) (by omega) g3 g4 (hR.new (e := .inl (t, n.toNatClampNeg, .inr (.inr (.inr (.inr (fun _ => none)))))) ?_ z1 o1) ⟨Nat.le_trans hS.1 (by omega), fun x h1 h2 => (o1 x (Nat.lt_of_lt_of_le h1 hS.1)).trans (hS.2.1 x h1 h2), hS.2.2⟩ hl
  show H1[K.2.2.2.2.2 + h.1]? = some (vp_cell (mm_cA K.2.2.2.1 t) _)
  rw [show mm_cA K.2.2.2.1 t = cA' from mm_cA_at hcA, e1]
  rfl
/-- a reference or null -/
def mm_rf (r : Option Nat) : Value := match r with
  | none => .null
  | some a => .ref a
theorem mm_rf_sh (b : Nat) (r : Option Nat) : mm_sh b (mm_rf r) = va_rf (r.map (fun q => b + q)) := by cases r <;> rfl
theorem mm_acmp_eq {rx ry : Option Nat} {off : Int} {tgt : Nat} (hd : decode cc pc = .ok (.if_acmp .eq off, 3)) (ht : (pc : Int) + off = (tgt : Int)) (kt : rx = ry → mm_V K d y cc nL rt (tgt) L (st) h kc ks Q) (kf : ¬ rx = ry → mm_V K d y cc nL rt (pc + 3) L (st) h kc ks Q) : mm_V K d y cc nL rt (pc) L (mm_rf ry :: mm_rf rx :: st) h kc ks Q := by
  intro p e R s m args below meth c H locs ls cells slots mc ms X g1 g2 g3 g4 hR hS hl
  have he : mm_S K (mm_rf ry :: mm_rf rx :: st) = va_rf (ry.map (fun q => K.2.2.2.2.2 + q)) :: va_rf (rx.map (fun q => K.2.2.2.2.2 + q)) :: mm_S K st := by
    show mm_sh _ _ :: mm_sh _ _ :: _ = _
    rw [mm_rf_sh, mm_rf_sh]
    rfl
  rw [he]
  have inj : rx.map (fun q => K.2.2.2.2.2 + q) = ry.map (fun q => K.2.2.2.2.2 + q) → rx = ry := by
    intro q
    cases rx <;> cases ry <;> simp at q ⊢
    exact q
  exact lv_acmp_eq X.1 X.2.1 hd ht (fun q => kt (inj q) p e R s m args below meth c H locs ls cells slots mc ms X g1 g2 g3 g4 hR hS hl) (fun q => kf (fun z => q (by rw [z])) p e R s m args below meth c H locs ls cells slots mc ms X g1 g2 g3 g4 hR hS hl)
/-- what the tables say of a field that is read -/
def mm_Fr (K : mm_K) (own : String) (idx ci k N : Nat) : Prop := ∃ (C : String) (T : u_T), K.2.2.1[ci]? = some (C, T, N) ∧ (∀ w ∈ u_ws C T N, w ∈ K.2.2.2.2.1) ∧ k < N ∧ Cond.fieldLink own idx (T k).1 (T k).2.1 (T k).2.2.1 ∈ K.2.2.2.2.1
theorem mm_getr {idx ci j N o : Nat} {fs : List Value} {v : Value} (hd : decode cc pc = .ok (.getfield idx, 3)) (hF : mm_Fr K y.cls idx ci j N) (ho : h.2 o = some (.inr (ci, fs))) (hv : fs[j]? = some v) (k : mm_V K d y cc nL rt (pc + 3) L (v :: st) h kc ks Q) : mm_V K d y cc nL rt (pc) L (.ref o :: st) h kc ks Q := by
  intro p e R s m args below meth c H locs ls cells slots mc ms X g1 g2 g3 g4 hR hS hl
  obtain ⟨C, T, f1, f2, f5, f6⟩ := hF
  have hP : va_P K.2.1 K.2.2.1 [(K.2.2.2.2.2 + o, .inr (ci, fs.map (mm_sh K.2.2.2.2.2)))] H := fun k q hk => by
    cases k with
    | zero => cases hk; exact hR.2 o _ ho
    | succ k => simp at hk
  exact va_get (D := K.2.1) (cl := K.2.2.1) (ci := ci) (v := mm_sh K.2.2.2.2.2 v) (C := C) (T := T) (N := N) X.1 X.2.1 X.2.2.2.2.2.2.2.1 f2 X.2.2.2.2.2.1 X.2.2.2.2.2.2.2.2.1 hP 0 rfl f1 j f5 (X.2.2.2.2.2.2.2.1 _ f6) (fun _ h9 => h9) (by rw [List.getElem?_map, hv]; rfl) hd (k p e R s m args below meth c H locs ls cells slots mc ms X g1 g2 g3 g4 hR hS hl)
/-- a call of a nest mate's own -/
def mm_CN (K : mm_K) (own : String) (idx : Nat) (y2 : MethodName) (cc2 : ByteArray) (nL2 : Nat) (rt2 : Option FieldType) (n : Nat) (kd : Cond) (host : String) : Prop :=
  plainName y2.cls = true ∧ (y2.cls ≠ "java/lang/invoke/MethodHandle" ∧ y2.cls ≠ "java/lang/invoke/VarHandle" ∧ (parseMethodDescriptor y2.desc).map (fun d => d.parameters.length) = some n) ∧
  Cond.methodLinkNest own idx y2 host ∈ mm_N ∧ kd ∈ K.2.2.2.2.1 ∧ Cond.initialized y2.cls ∈ K.2.2.2.2.1 ∧ Cond.code y2 cc2 nL2 rt2 ∈ K.2.2.2.2.1
theorem mm_callSN {idx n k1 s1 d2 : Nat} {y2 : MethodName} {cc2 : ByteArray} {nL2 : Nat} {rt2 : Option FieldType} {host : String} {As rest : List Value} {Q1 : Option Value → mm_H → Prop} {st0 : List Value} (hd : decode cc pc = .ok (.invokestatic idx, 3)) (hG : mm_G K) (hC : mm_CN K y.cls idx y2 cc2 nL2 rt2 n (.static y2) host) (hst : st0 = As.reverse ++ rest) (hn : As.length = n) (hcat : (rest.map fun v => v.category).sum ≤ 8) (hlen : (lg_sl (mm_S K As)).length ≤ nL2)
    (hdd : d2 + 1 ≤ d ∧ 19 + nL2 + 39 * d2 ≤ 39 * d) (hV : mm_V K d2 y2 cc2 nL2 rt2 0 (lv_args 0 As) [] h k1 s1 Q1) (hk1 : k1 ≤ kc) (hs1 : s1 ≤ ks)
    (k : ∀ (r : Option Value) (h1 : mm_H), Q1 r h1 → mm_V K d y cc nL rt (pc + 3) L (r.toList ++ rest) h1 (kc - k1) (ks - s1) Q) : mm_V K d y cc nL rt pc L st0 h kc ks Q := by
  intro p e R s m args below meth c H locs ls cells slots mc ms X g1 g2 g3 g4 hR hS hl
  obtain ⟨c1, c2, c4, c5, c6, c7⟩ := hC
  have hts := X.2.2.2.2.2.2.2.1
  have hM := mm_met (As := As) c1 hlen hV
  refine mm_goon (va_runSN (As := mm_S K As) (rest := mm_S K rest) ⟨X.1, X.2.1, X.2.2.1, X.2.2.2.2.2.1, hts⟩ hM ⟨va_cnB n hts (mm_good hG (fun w hw => by
    rcases List.mem_cons.mp hw with h | h
    · rw [h]; exact c7
    · exact h)) rfl rfl rfl (X.2.2.2.2.2.2.2.2.2.2.2 _ c4) (hts _ c6) c2 ⟨by show d2 + 1 ≤ R.frames; have := X.2.2.2.2.2.2.2.2.2.1.1; omega, by show 8 + (nL2 + 11) + 39 * d2 ≤ R.locals; have := X.2.2.2.2.2.2.2.2.2.1.2; omega⟩, hts _ c5, trivial⟩ ⟨mm_blind, fun U hU hW => ⟨rfl, by rw [hU]; exact hR, va_K.moved hW.alike X.2.2.2.2.2.2.2.2.1, mm_Nw_w hW X.2.2.2.2.2.2.2.2.2.2.2⟩⟩ rfl (by unfold mm_S; rw [List.length_map]; exact hn) hl.1 (by show mm_S K st0 = _; rw [hst, mm_S_app, mm_S_rev]) (lv_room (by rw [mm_catS]; exact hcat)) hd ⟨by omega, by omega⟩) hS (fun r h1 H1 locs1 hq hR1 hS1 => ?_)
  rw [mm_opt]
  exact k r h1 hq p e R s m args below meth c H1 locs1 ls (cells + k1) (slots + s1) mc ms X (by omega) (by omega) g3 g4 hR1 hS1 hl
theorem mm_callIN {idx n k1 s1 o d2 : Nat} {y2 : MethodName} {cc2 : ByteArray} {nL2 : Nat} {host : String} {As rest : List Value} {Q1 : Option Value → mm_H → Prop} {st0 : List Value} (hd : decode cc pc = .ok (.invokespecial idx, 3)) (hG : mm_G K) (hC : mm_CN K y.cls idx y2 cc2 nL2 none n (.instanceMethod y2) host) (hy1 : y2.name = "<init>") (hst : st0 = As.reverse ++ .ref o :: rest) (hn : As.length = n) (hcat : (rest.map fun v => v.category).sum ≤ 8) (hlen : (lg_sl (mm_S K (.ref o :: As))).length ≤ nL2)
    (hdd : d2 + 1 ≤ d ∧ 19 + nL2 + 39 * d2 ≤ 39 * d) (hV : mm_V K d2 y2 cc2 nL2 none 0 (lv_args 0 (.ref o :: As)) [] h k1 s1 Q1) (hk1 : k1 ≤ kc) (hs1 : s1 ≤ ks)
    (k : ∀ (r : Option Value) (h1 : mm_H), Q1 r h1 → mm_V K d y cc nL rt (pc + 3) L (r.toList ++ rest) h1 (kc - k1) (ks - s1) Q) : mm_V K d y cc nL rt pc L st0 h kc ks Q := by
  intro p e R s m args below meth c H locs ls cells slots mc ms X g1 g2 g3 g4 hR hS hl
  obtain ⟨c1, c2, c4, c5, c6, c7⟩ := hC
  have hts := X.2.2.2.2.2.2.2.1
  have hK := X.2.2.2.2.2.2.2.2.1
  have hM := mm_met (As := .ref o :: As) c1 hlen hV
  refine mm_goon (va_runIN (b := K.2.2.2.2.2 + o) (As := mm_S K As) (rest := mm_S K rest) ⟨X.1, X.2.1, X.2.2.1, X.2.2.2.2.2.1, hts⟩ hM ⟨va_cnB n hts (mm_good hG (fun w hw => by
    rcases List.mem_cons.mp hw with h | h
    · rw [h]; exact c7
    · exact h)) rfl rfl rfl (X.2.2.2.2.2.2.2.2.2.2.2 _ c4) (hts _ c6) c2 ⟨by show d2 + 1 ≤ R.frames; have := X.2.2.2.2.2.2.2.2.2.1.1; omega, by show 8 + (nL2 + 11) + 39 * d2 ≤ R.locals; have := X.2.2.2.2.2.2.2.2.2.1.2; omega⟩, hy1, hts _ c5⟩ ⟨mm_blind, fun U hU hW => ⟨rfl, by rw [hU]; exact hR, va_K.moved hW.alike hK, mm_Nw_w hW X.2.2.2.2.2.2.2.2.2.2.2⟩⟩ rfl (by unfold mm_S; rw [List.length_map]; exact hn) hl.1 (by show mm_S K st0 = _; rw [hst, mm_S_app, mm_S_rev]; rfl) (lv_room (by rw [mm_catS]; exact hcat)) hd ⟨by omega, by omega⟩) hS (fun r h1 H1 locs1 hq hR1 hS1 => ?_)
  rw [mm_opt]
  exact k r h1 hq p e R s m args below meth c H1 locs1 ls (cells + k1) (slots + s1) mc ms X (by omega) (by omega) g3 g4 hR1 hS1 hl
/-- the words of a call of Math -/
def mm_M (K : mm_K) (own : String) (idx : Nat) (y2 : MethodName) (cc2 : ByteArray) (n : Nat) : Prop := Cond.methodLink own idx y2 ∈ K.2.2.2.2.1 ∧ Cond.static y2 ∈ K.2.2.2.2.1 ∧ Cond.initialized "java/lang/Math" ∈ K.2.2.2.2.1 ∧ Cond.code y2 cc2 n (some .int) ∈ K.2.2.2.2.1
theorem mm_mmax {idx : Nat} {x z : Int32} (hd : decode cc pc = .ok (.invokestatic idx, 3)) (hM : mm_M K y.cls idx Lib.Math.max.name Lib.Math.max.code 2) (hcat : (st.map fun v => v.category).sum ≤ 8) (k : mm_V K (d + 1) y cc nL rt (pc + 3) L (.int (if x < z then z else x) :: st) h kc ks Q) : mm_V K (d + 1) y cc nL rt pc L (.int z :: .int x :: st) h kc ks Q := by
  intro p e R s m args below meth c H locs ls cells slots mc ms X g1 g2 g3 g4 hR hS hl
  have hts := X.2.2.2.2.2.2.2.1
  have hc := mm_catS K st
  exact va_mmax X.1 X.2.1 (by rw [X.2.2.1]; exact hl.1.symm) X.2.2.2.2.2.1 (hts _ hM.1) (hts _ hM.2.1) (hts _ hM.2.2.1) (hts _ hM.2.2.2) (by have := X.2.2.2.2.2.2.2.2.2.1.1; omega) (by show ((mm_S K st).map fun v => v.category).sum + 13 ≤ R.locals; rw [hc]; have := X.2.2.2.2.2.2.2.2.2.1.2; omega) (by omega) (by omega) hd (k p e R s m args below meth c H locs ls cells slots mc ms X g1 g2 g3 g4 hR hS hl)
theorem mm_mmin {idx : Nat} {x z : Int32} (hd : decode cc pc = .ok (.invokestatic idx, 3)) (hM : mm_M K y.cls idx Lib.Math.min.name Lib.Math.min.code 2) (hcat : (st.map fun v => v.category).sum ≤ 8) (k : mm_V K (d + 1) y cc nL rt (pc + 3) L (.int (if z < x then z else x) :: st) h kc ks Q) : mm_V K (d + 1) y cc nL rt pc L (.int z :: .int x :: st) h kc ks Q := by
  intro p e R s m args below meth c H locs ls cells slots mc ms X g1 g2 g3 g4 hR hS hl
  have hts := X.2.2.2.2.2.2.2.1
  have hc := mm_catS K st
  exact va_mmin X.1 X.2.1 (by rw [X.2.2.1]; exact hl.1.symm) X.2.2.2.2.2.1 (hts _ hM.1) (hts _ hM.2.1) (hts _ hM.2.2.1) (hts _ hM.2.2.2) (by have := X.2.2.2.2.2.2.2.2.2.1.1; omega) (by show ((mm_S K st).map fun v => v.category).sum + 13 ≤ R.locals; rw [hc]; have := X.2.2.2.2.2.2.2.2.2.1.2; omega) (by omega) (by omega) hd (k p e R s m args below meth c H locs ls cells slots mc ms X g1 g2 g3 g4 hR hS hl)
theorem mm_mabs {idx : Nat} {x : Int32} (hd : decode cc pc = .ok (.invokestatic idx, 3)) (hM : mm_M K y.cls idx Lib.Math.abs.name Lib.Math.abs.code 1) (hcat : (st.map fun v => v.category).sum ≤ 8) (k : mm_V K (d + 1) y cc nL rt (pc + 3) L (.int (if 0 ≤ x then x else 0 - x) :: st) h kc ks Q) : mm_V K (d + 1) y cc nL rt pc L (.int x :: st) h kc ks Q := by
  intro p e R s m args below meth c H locs ls cells slots mc ms X g1 g2 g3 g4 hR hS hl
  have hts := X.2.2.2.2.2.2.2.1
  have hc := mm_catS K st
  exact va_mabs X.1 X.2.1 (by rw [X.2.2.1]; exact hl.1.symm) X.2.2.2.2.2.1 (hts _ hM.1) (hts _ hM.2.1) (hts _ hM.2.2.1) (hts _ hM.2.2.2) (by have := X.2.2.2.2.2.2.2.2.2.1.1; omega) (by show ((mm_S K st).map fun v => v.category).sum + 13 ≤ R.locals; rw [hc]; have := X.2.2.2.2.2.2.2.2.2.1.2; omega) (by omega) (by omega) hd (k p e R s m args below meth c H locs ls cells slots mc ms X g1 g2 g3 g4 hR hS hl)
end MMR
