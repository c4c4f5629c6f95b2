section MMR
variable {K : mm_K} {d : Nat} {y : MethodName} {cc : ByteArray} {nL : Nat} {rt : Option FieldType} {pc : Nat} {L : List (Nat × Value)} {st : List Value} {h : mm_H} {kc ks : Nat} {Q : Option Value → mm_H → Prop}
theorem mm_Nw_s {s U : State} (e : s.vm = U.vm) (h : mm_Nw s) : mm_Nw U := by
  intro w hw
  have h1 := h w hw
  rcases mm_N_is w hw with ⟨a, i, x, b, rfl⟩ | ⟨C, rfl⟩
  · exact va_Nw.same rfl e h1
  · exact va_AO.moved (u := s) (U := U) (by rw [e]; exact Vm.Alike.refl _) h1
theorem mm_Nw_w {s U : State} (hW : s.WarmedH U.vm) (h : mm_Nw s) : mm_Nw U := by
  intro w hw
  have h1 := h w hw
  rcases mm_N_is w hw with ⟨a, i, x, b, rfl⟩ | ⟨C, rfl⟩
  · exact va_Nw.warmM hW h1
  · exact va_AO.moved hW.alike h1

/-- what the tables say of a field: pool entry idx of class own is field k of class number ci -/
def mm_F (K : mm_K) (own : String) (idx ci k N : Nat) (ty : FieldType) (fin : Bool) : Prop :=
  ∃ (C : String) (T : u_T) (ty0 : Nat → FieldType), K.2.2.1[ci]? = some (C, T, N) ∧ (∀ w ∈ u_ws C T N, w ∈ K.2.2.2.2.1) ∧ (∀ k, k < N → parseFieldDescriptor (T k).2.2.1 = some (ty0 k)) ∧ (∀ a, a < N → ∀ b, b < N → a ≠ b → (T a).2.1 ≠ (T b).2.1) ∧ k < N ∧ Cond.fieldLink own idx (T k).1 (T k).2.1 (T k).2.2.1 ∈ K.2.2.2.2.1 ∧ (T k).2.2.2 = fin ∧ parseFieldDescriptor (T k).2.2.1 = some ty ∧ (fin = true → (T k).1 = own)
theorem mm_nar {b : Nat} {ty : FieldType} {v : Value} (h : narrow ty v = v) : narrow ty (mm_sh b v) = mm_sh b v := by
  cases v <;> first | exact h | (cases ty <;> rfl)
theorem mm_fit {b : Nat} {ty : FieldType} {v : Value} (h : fits ty v = true) : fits ty (mm_sh b v) = true := by
  cases v <;> first | exact h | (cases ty <;> first | rfl | exact h)
theorem mm_V_eq {a b : Nat} {fs : List Value} {v : Value} (hl : a < fs.length) (c : Nat) : updV (vp_V (fs.map (mm_sh b))) a (mm_sh b v) c = vp_V ((fs.set a v).map (mm_sh b)) c := by
  rw [List.map_set]
  exact vp_updV_set (by rw [List.length_map]; exact hl) _ _

theorem mm_get {idx ci j N o : Nat} {ty : FieldType} {fin : Bool} {fs : List Value} {v : Value} (hd : decode cc pc = .ok (.getfield idx, 3)) (hF : mm_F K y.cls idx ci j N ty fin) (ho : h.2 o = some (.inr (ci, fs))) (hv : fs[j]? = some v) (k : mm_V K d y cc nL rt (pc + 3) L (v :: st) h kc ks Q) : mm_V K d y cc nL rt (pc) L (.ref o :: st) h kc ks Q := by
  intro p e R s m args below meth c H locs ls cells slots mc ms X g1 g2 g3 g4 hR hS hl
  obtain ⟨C, T, ty0, f1, f2, f3, f4, f5, f6, f7, f8, f9⟩ := hF
  have hP : va_P K.2.1 K.2.2.1 [(K.2.2.2.2.2 + o, .inr (ci, fs.map (mm_sh K.2.2.2.2.2)))] H := fun k q hk => by
    cases k with
    | zero => cases hk; exact hR.2 o _ ho
    | succ k => simp at hk
  exact va_get (D := K.2.1) (cl := K.2.2.1) (ci := ci) (v := mm_sh K.2.2.2.2.2 v) (C := C) (T := T) (N := N) X.1 X.2.1 X.2.2.2.2.2.2.2.1 f2 X.2.2.2.2.2.1 X.2.2.2.2.2.2.2.2.1 hP 0 rfl f1 j f5 (X.2.2.2.2.2.2.2.1 _ f6) (fun _ h9 => h9) (by rw [List.getElem?_map, hv]; rfl) hd (k p e R s m args below meth c H locs ls cells slots mc ms X g1 g2 g3 g4 hR hS hl)
theorem mm_put {idx ci j N o : Nat} {ty : FieldType} {fs : List Value} {v : Value} (hd : decode cc pc = .ok (.putfield idx, 3)) (hF : mm_F K y.cls idx ci j N ty false) (ho : h.2 o = some (.inr (ci, fs))) (hlen : j < fs.length) (hn : narrow ty v = v) (hfit : fits ty v = true) (k : mm_V K d y cc nL rt (pc + 3) L (st) (mm_set h o (.inr (ci, fs.set j v))) kc ks Q) : mm_V K d y cc nL rt (pc) L (v :: .ref o :: st) h kc ks Q := by
  intro p e R s m args below meth c H locs ls cells slots mc ms X g1 g2 g3 g4 hR hS hl
  obtain ⟨C, T, ty0, f1, f2, f3, f4, f5, f6, f7, f8, f9⟩ := hF
  have hts := X.2.2.2.2.2.2.2.1
  have hK := X.2.2.2.2.2.2.2.2.1
  have hap := va_apart (own := y.cls) hts f2 ty0 f3 f4 hK f1
  obtain ⟨r, h1, cell, q1, q2, q3, q4⟩ := hR.2 o _ ho
  have hr : r = (C, T, N) := Option.some.inj (h1.symm.trans f1)
  subst hr
  obtain ⟨hSl, hfc, kC, hkC, hkind⟩ := hK.1 ci _ f1
  obtain ⟨cf, kf, fi, f, hi, hsl⟩ := hSl j f5
  have hlay := hts _ (f2 _ (u_in_lay f5))
  unfold u_lay at hlay
  rw [if_neg (by rw [f7]; decide)] at hlay
  have hst := (u_facts hfc hkC (u_lays hts f2 f5) hi).1
  have h6 := u_store hfc hkC hkind hlay hi f8 (mm_nar (b := K.2.2.2.2.2) hn) (mm_fit hfit)
  refine W.putK X.1 X.2.1 (f := f) ⟨X.2.2.2.2.2.1, hts _ f6, ⟨_, _, _, hi⟩, hst⟩ (by rw [q2]; exact h6) q1 q3 (by rw [hsl]; exact k2_hasslot (q4 j f5)) rfl rfl hd fun H' e1 e2 e3 => ?_
  rw [hsl] at e1 ⊢
  exact k p e R s m args below meth c H' _ ls cells slots mc ms X g1 g2 g3 g4 (hR.set (a := o) (e := .inr (ci, fs.set j v)) ⟨_, f1, t_OB.to (V := updV (vp_V (fs.map (mm_sh K.2.2.2.2.2))) j (mm_sh K.2.2.2.2.2 v)) ⟨_, e1, q2, q3, t_set q4 hap f5 _⟩ (fun c _ => mm_V_eq hlen c)⟩ e2 e3) (hS.put e2 e3 (Nat.le_add_right _ _)) hl
theorem mm_putF {idx ci j N o : Nat} {ty : FieldType} {fs : List Value} {v : Value} (hd : decode cc pc = .ok (.putfield idx, 3)) (hF : mm_F K y.cls idx ci j N ty true) (hy : y.name = "<init>") (ho : h.2 o = some (.inr (ci, fs))) (hlen : j < fs.length) (hn : narrow ty v = v) (hfit : fits ty v = true) (k : mm_V K d y cc nL rt (pc + 3) L (st) (mm_set h o (.inr (ci, fs.set j v))) kc ks Q) : mm_V K d y cc nL rt (pc) L (v :: .ref o :: st) h kc ks Q := by
  intro p e R s m args below meth c H locs ls cells slots mc ms X g1 g2 g3 g4 hR hS hl
  obtain ⟨C, T, ty0, f1, f2, f3, f4, f5, f6, f7, f8, f9⟩ := hF
  have hts := X.2.2.2.2.2.2.2.1
  have hK := X.2.2.2.2.2.2.2.2.1
  have hown := X.2.2.2.2.2.1
  have hap := va_apart (own := y.cls) hts f2 ty0 f3 f4 hK f1
  obtain ⟨r, h1, cell, q1, q2, q3, q4⟩ := hR.2 o _ ho
  have hr : r = (C, T, N) := Option.some.inj (h1.symm.trans f1)
  subst hr
  obtain ⟨hSl, hfc, kC, hkC, hkind⟩ := hK.1 ci _ f1
  obtain ⟨cf, kf, fi, f, hi, hsl⟩ := hSl j f5
  have hlay := hts _ (f2 _ (u_in_lay f5))
  unfold u_lay at hlay
  rw [if_pos f7] at hlay
  have hst := (u_facts hfc hkC (u_lays hts f2 f5) hi).1
  have hcf : m.cls = cf := by
    obtain ⟨_, _, c', _, _, _, -, -, hf', -, -, -, hown2, -⟩ := Cond.laysFinal_spec hlay
    have e1 : c' = cf := by have := hi.symm.trans hf'; simp at this; exact this.1.symm
    rw [f9 rfl] at hown2
    rw [← e1]; exact Option.some.inj (hown.symm.trans hown2)
  have h6 := u_fits hfc hkC hkind (Or.inr hlay) hi f8 (mm_nar (b := K.2.2.2.2.2) hn) (mm_fit hfit)
  refine W.putFinK X.1 X.2.1 hown (hts _ f6) hi hst hcf (X.2.2.2.2.2.2.1.trans hy) (by rw [q2]; exact h6) q1 q3 (by rw [hsl]; exact k2_hasslot (q4 j f5)) rfl rfl hd fun H' e1 e2 e3 => ?_
  rw [hsl] at e1 ⊢
  exact k p e R s m args below meth c H' _ ls cells slots mc ms X g1 g2 g3 g4 (hR.set (a := o) (e := .inr (ci, fs.set j v)) ⟨_, f1, t_OB.to (V := updV (vp_V (fs.map (mm_sh K.2.2.2.2.2))) j (mm_sh K.2.2.2.2.2 v)) ⟨_, e1, q2, q3, t_set q4 hap f5 _⟩ (fun c _ => mm_V_eq hlen c)⟩ e2 e3) (hS.put e2 e3 (Nat.le_add_right _ _)) hl
theorem mm_cA_at {tys : List (ClassId × FieldType)} {t : Nat} {q : ClassId × FieldType} (h : tys[t]? = some q) : mm_cA tys t = q.1 := by unfold mm_cA; rw [h]; rfl
/-- type number t is ty -/
def mm_T (K : mm_K) (t : Nat) (ty : FieldType) : Prop := ∃ cA : ClassId, K.2.2.2.1[t]? = some (cA, ty)
theorem mm_iald {t n a : Nat} {f : Nat → Int32} {i : Int32} (hd : decode cc pc = .ok (.iaload, 1)) (ht : mm_T K t .int) (ha : h.2 a = some (.inl (t, n, .inl f))) (hin : vp_in i n) (k : mm_V K d y cc nL rt (pc + 1) L (.int (f i.toNatClampNeg) :: st) h kc ks Q) : mm_V K d y cc nL rt (pc) L (.int i :: .ref a :: st) h kc ks Q := by
  intro p e R s m args below meth c H locs ls cells slots mc ms X g1 g2 g3 g4 hR hS hl
  obtain ⟨cA, hcA⟩ := ht
  have hP : va_P K.2.1 K.2.2.1 [(K.2.2.2.2.2 + a, .inl (cA, n, .inl f))] H := fun k q hk => by
    cases k with
    | zero =>
      cases hk
      have h1 : va_at K.2.1 K.2.2.1 (K.2.2.2.2.2 + a, .inl (mm_cA K.2.2.2.1 t, n, .inl f)) H := hR.2 a _ ha
      rw [show mm_cA K.2.2.2.1 t = cA from mm_cA_at hcA] at h1
      exact h1
    | succ k => simp at hk
  exact va_iald X.1 X.2.1 X.2.2.2.2.2.2.2.2.1 hP 0 t rfl hcA hin hd (k p e R s m args below meth c H locs ls cells slots mc ms X g1 g2 g3 g4 hR hS hl)
theorem mm_bald {t n a : Nat} {f : Nat → Int32} {i : Int32} (hd : decode cc pc = .ok (.baload, 1)) (ht : mm_T K t .byte) (ha : h.2 a = some (.inl (t, n, .inl f))) (hin : vp_in i n) (k : mm_V K d y cc nL rt (pc + 1) L (.int (f i.toNatClampNeg) :: st) h kc ks Q) : mm_V K d y cc nL rt (pc) L (.int i :: .ref a :: st) h kc ks Q := by
  intro p e R s m args below meth c H locs ls cells slots mc ms X g1 g2 g3 g4 hR hS hl
  obtain ⟨cA, hcA⟩ := ht
  have hP : va_P K.2.1 K.2.2.1 [(K.2.2.2.2.2 + a, .inl (cA, n, .inl f))] H := fun k q hk => by
    cases k with
    | zero =>
      cases hk
      have h1 : va_at K.2.1 K.2.2.1 (K.2.2.2.2.2 + a, .inl (mm_cA K.2.2.2.1 t, n, .inl f)) H := hR.2 a _ ha
      rw [show mm_cA K.2.2.2.1 t = cA from mm_cA_at hcA] at h1
      exact h1
    | succ k => simp at hk
  exact va_bald X.1 X.2.1 X.2.2.2.2.2.2.2.2.1 hP 0 t rfl hcA hin hd (k p e R s m args below meth c H locs ls cells slots mc ms X g1 g2 g3 g4 hR hS hl)
theorem mm_zald {t n a : Nat} {f : Nat → Int32} {i : Int32} (hd : decode cc pc = .ok (.baload, 1)) (ht : mm_T K t .boolean) (ha : h.2 a = some (.inl (t, n, .inl f))) (hin : vp_in i n) (k : mm_V K d y cc nL rt (pc + 1) L (.int (f i.toNatClampNeg) :: st) h kc ks Q) : mm_V K d y cc nL rt (pc) L (.int i :: .ref a :: st) h kc ks Q := by
  intro p e R s m args below meth c H locs ls cells slots mc ms X g1 g2 g3 g4 hR hS hl
  obtain ⟨cA, hcA⟩ := ht
  have hP : va_P K.2.1 K.2.2.1 [(K.2.2.2.2.2 + a, .inl (cA, n, .inl f))] H := fun k q hk => by
    cases k with
    | zero =>
      cases hk
      have h1 : va_at K.2.1 K.2.2.1 (K.2.2.2.2.2 + a, .inl (mm_cA K.2.2.2.1 t, n, .inl f)) H := hR.2 a _ ha
      rw [show mm_cA K.2.2.2.1 t = cA from mm_cA_at hcA] at h1
      exact h1
    | succ k => simp at hk
  exact va_zald X.1 X.2.1 X.2.2.2.2.2.2.2.2.1 hP 0 t rfl hcA hin hd (k p e R s m args below meth c H locs ls cells slots mc ms X g1 g2 g3 g4 hR hS hl)
theorem mm_sald {t n a : Nat} {f : Nat → Int32} {i : Int32} (hd : decode cc pc = .ok (.saload, 1)) (ht : mm_T K t .short) (ha : h.2 a = some (.inl (t, n, .inl f))) (hin : vp_in i n) (k : mm_V K d y cc nL rt (pc + 1) L (.int (f i.toNatClampNeg) :: st) h kc ks Q) : mm_V K d y cc nL rt (pc) L (.int i :: .ref a :: st) h kc ks Q := by
  intro p e R s m args below meth c H locs ls cells slots mc ms X g1 g2 g3 g4 hR hS hl
  obtain ⟨cA, hcA⟩ := ht
  have hP : va_P K.2.1 K.2.2.1 [(K.2.2.2.2.2 + a, .inl (cA, n, .inl f))] H := fun k q hk => by
    cases k with
    | zero =>
      cases hk
      have h1 : va_at K.2.1 K.2.2.1 (K.2.2.2.2.2 + a, .inl (mm_cA K.2.2.2.1 t, n, .inl f)) H := hR.2 a _ ha
      rw [show mm_cA K.2.2.2.1 t = cA from mm_cA_at hcA] at h1
      exact h1
    | succ k => simp at hk
  exact va_sald X.1 X.2.1 X.2.2.2.2.2.2.2.2.1 hP 0 t rfl hcA hin hd (k p e R s m args below meth c H locs ls cells slots mc ms X g1 g2 g3 g4 hR hS hl)
theorem mm_lald {t n a : Nat} {f : Nat → Int64} {i : Int32} (hd : decode cc pc = .ok (.laload, 1)) (ht : mm_T K t .long) (ha : h.2 a = some (.inl (t, n, .inr (.inl f)))) (hin : vp_in i n) (k : mm_V K d y cc nL rt (pc + 1) L (.long (f i.toNatClampNeg) :: st) h kc ks Q) : mm_V K d y cc nL rt (pc) L (.int i :: .ref a :: st) h kc ks Q := by
  intro p e R s m args below meth c H locs ls cells slots mc ms X g1 g2 g3 g4 hR hS hl
  obtain ⟨cA, hcA⟩ := ht
  have hP : va_P K.2.1 K.2.2.1 [(K.2.2.2.2.2 + a, .inl (cA, n, .inr (.inl f)))] H := fun k q hk => by
    cases k with
    | zero =>
      cases hk
      have h1 : va_at K.2.1 K.2.2.1 (K.2.2.2.2.2 + a, .inl (mm_cA K.2.2.2.1 t, n, .inr (.inl f))) H := hR.2 a _ ha
      rw [show mm_cA K.2.2.2.1 t = cA from mm_cA_at hcA] at h1
      exact h1
    | succ k => simp at hk
  exact va_lald X.1 X.2.1 X.2.2.2.2.2.2.2.2.1 hP 0 t rfl hcA hin hd (k p e R s m args below meth c H locs ls cells slots mc ms X g1 g2 g3 g4 hR hS hl)
theorem mm_iast {t n a : Nat} {f : Nat → Int32} {i : Int32} {x : Int32} (hd : decode cc pc = .ok (.iastore, 1)) (ht : mm_T K t .int) (ha : h.2 a = some (.inl (t, n, .inl f))) (hin : vp_in i n) (k : mm_V K d y cc nL rt (pc + 1) L (st) (mm_set h a (.inl (t, n, .inl (upd f i.toNatClampNeg x)))) kc ks Q) : mm_V K d y cc nL rt (pc) L (.int x :: .int i :: .ref a :: st) h kc ks Q := by
  intro p e R s m args below meth c H locs ls cells slots mc ms X g1 g2 g3 g4 hR hS hl
  obtain ⟨cA, hcA⟩ := ht
  have h1 : H[K.2.2.2.2.2 + a]? = some (vp_cell cA (n, .inl f)) := by
    have h1 : va_at K.2.1 K.2.2.1 (K.2.2.2.2.2 + a, .inl (mm_cA K.2.2.2.1 t, n, .inl f)) H := hR.2 a _ ha
    rw [show mm_cA K.2.2.2.1 t = cA from mm_cA_at hcA] at h1
    exact h1
  refine W.iast X.1 X.2.1 h1 ((X.2.2.2.2.2.2.2.2.1.2 t _ hcA).1 n (fun j => .int (f j))) (fun q => by cases q) (by show ¬ (i < 0 ∨ (arrV _ _ _).slots.size ≤ _); rw [arrV_size]; exact hin) rfl rfl hd fun H1 e1 z oq => ?_
  refine k p e R s m args below meth c H1 _ ls cells slots mc ms X g1 g2 g3 g4 (hR.set (a := a) ?_ z oq) (hS.put z oq (Nat.le_add_right _ _)) hl
  show H1[K.2.2.2.2.2 + a]? = some (vp_cell (mm_cA K.2.2.2.1 t) (n, .inl (upd f i.toNatClampNeg x)))
  rw [e1, show mm_cA K.2.2.2.1 t = cA from mm_cA_at hcA]
  rw [vp_cell_i, vp_cell_i, arrV_store]
  congr 2
  funext q
  by_cases hq : q = i.toNatClampNeg
  · subst hq
    simp [updV, upd]
    try rfl
  · simp [updV, upd, hq]
theorem mm_bast {t n a : Nat} {f : Nat → Int32} {i : Int32} {x : Int32} (hd : decode cc pc = .ok (.bastore, 1)) (ht : mm_T K t .byte) (ha : h.2 a = some (.inl (t, n, .inl f))) (hin : vp_in i n) (k : mm_V K d y cc nL rt (pc + 1) L (st) (mm_set h a (.inl (t, n, .inl (upd f i.toNatClampNeg (vp_nar .byte x))))) kc ks Q) : mm_V K d y cc nL rt (pc) L (.int x :: .int i :: .ref a :: st) h kc ks Q := by
  intro p e R s m args below meth c H locs ls cells slots mc ms X g1 g2 g3 g4 hR hS hl
  obtain ⟨cA, hcA⟩ := ht
  have h1 : H[K.2.2.2.2.2 + a]? = some (vp_cell cA (n, .inl f)) := by
    have h1 : va_at K.2.1 K.2.2.1 (K.2.2.2.2.2 + a, .inl (mm_cA K.2.2.2.1 t, n, .inl f)) H := hR.2 a _ ha
    rw [show mm_cA K.2.2.2.1 t = cA from mm_cA_at hcA] at h1
    exact h1
  refine W.bast X.1 X.2.1 h1 ((X.2.2.2.2.2.2.2.2.1.2 t _ hcA).1 n (fun j => .int (f j))) (fun q => by cases q) (by show ¬ (i < 0 ∨ (arrV _ _ _).slots.size ≤ _); rw [arrV_size]; exact hin) rfl rfl hd fun H1 e1 z oq => ?_
  refine k p e R s m args below meth c H1 _ ls cells slots mc ms X g1 g2 g3 g4 (hR.set (a := a) ?_ z oq) (hS.put z oq (Nat.le_add_right _ _)) hl
  show H1[K.2.2.2.2.2 + a]? = some (vp_cell (mm_cA K.2.2.2.1 t) (n, .inl (upd f i.toNatClampNeg (vp_nar .byte x))))
  rw [e1, show mm_cA K.2.2.2.1 t = cA from mm_cA_at hcA]
  rw [vp_cell_i, vp_cell_i, arrV_store]
  congr 2
  funext q
  by_cases hq : q = i.toNatClampNeg
  · subst hq
    simp [updV, upd, vp_nar]
    try rfl
  · simp [updV, upd, vp_nar, hq]
theorem mm_zast {t n a : Nat} {f : Nat → Int32} {i : Int32} {x : Int32} (hd : decode cc pc = .ok (.bastore, 1)) (ht : mm_T K t .boolean) (ha : h.2 a = some (.inl (t, n, .inl f))) (hin : vp_in i n) (k : mm_V K d y cc nL rt (pc + 1) L (st) (mm_set h a (.inl (t, n, .inl (upd f i.toNatClampNeg (vp_nar .boolean x))))) kc ks Q) : mm_V K d y cc nL rt (pc) L (.int x :: .int i :: .ref a :: st) h kc ks Q := by
  intro p e R s m args below meth c H locs ls cells slots mc ms X g1 g2 g3 g4 hR hS hl
  obtain ⟨cA, hcA⟩ := ht
  have h1 : H[K.2.2.2.2.2 + a]? = some (vp_cell cA (n, .inl f)) := by
    have h1 : va_at K.2.1 K.2.2.1 (K.2.2.2.2.2 + a, .inl (mm_cA K.2.2.2.1 t, n, .inl f)) H := hR.2 a _ ha
    rw [show mm_cA K.2.2.2.1 t = cA from mm_cA_at hcA] at h1
    exact h1
  refine W.zast X.1 X.2.1 h1 ((X.2.2.2.2.2.2.2.2.1.2 t _ hcA).1 n (fun j => .int (f j))) (fun q => by cases q) (by show ¬ (i < 0 ∨ (arrV _ _ _).slots.size ≤ _); rw [arrV_size]; exact hin) rfl rfl hd fun H1 e1 z oq => ?_
  refine k p e R s m args below meth c H1 _ ls cells slots mc ms X g1 g2 g3 g4 (hR.set (a := a) ?_ z oq) (hS.put z oq (Nat.le_add_right _ _)) hl
  show H1[K.2.2.2.2.2 + a]? = some (vp_cell (mm_cA K.2.2.2.1 t) (n, .inl (upd f i.toNatClampNeg (vp_nar .boolean x))))
  rw [e1, show mm_cA K.2.2.2.1 t = cA from mm_cA_at hcA]
  rw [vp_cell_i, vp_cell_i, arrV_store]
  congr 2
  funext q
  by_cases hq : q = i.toNatClampNeg
  · subst hq
    simp [updV, upd, vp_nar]
    try rfl
  · simp [updV, upd, vp_nar, hq]
theorem mm_sast {t n a : Nat} {f : Nat → Int32} {i : Int32} {x : Int32} (hd : decode cc pc = .ok (.sastore, 1)) (ht : mm_T K t .short) (ha : h.2 a = some (.inl (t, n, .inl f))) (hin : vp_in i n) (k : mm_V K d y cc nL rt (pc + 1) L (st) (mm_set h a (.inl (t, n, .inl (upd f i.toNatClampNeg (vp_nar .short x))))) kc ks Q) : mm_V K d y cc nL rt (pc) L (.int x :: .int i :: .ref a :: st) h kc ks Q := by
  intro p e R s m args below meth c H locs ls cells slots mc ms X g1 g2 g3 g4 hR hS hl
  obtain ⟨cA, hcA⟩ := ht
  have h1 : H[K.2.2.2.2.2 + a]? = some (vp_cell cA (n, .inl f)) := by
    have h1 : va_at K.2.1 K.2.2.1 (K.2.2.2.2.2 + a, .inl (mm_cA K.2.2.2.1 t, n, .inl f)) H := hR.2 a _ ha
    rw [show mm_cA K.2.2.2.1 t = cA from mm_cA_at hcA] at h1
    exact h1
  refine W.sast X.1 X.2.1 h1 ((X.2.2.2.2.2.2.2.2.1.2 t _ hcA).1 n (fun j => .int (f j))) (fun q => by cases q) (by show ¬ (i < 0 ∨ (arrV _ _ _).slots.size ≤ _); rw [arrV_size]; exact hin) rfl rfl hd fun H1 e1 z oq => ?_
  refine k p e R s m args below meth c H1 _ ls cells slots mc ms X g1 g2 g3 g4 (hR.set (a := a) ?_ z oq) (hS.put z oq (Nat.le_add_right _ _)) hl
  show H1[K.2.2.2.2.2 + a]? = some (vp_cell (mm_cA K.2.2.2.1 t) (n, .inl (upd f i.toNatClampNeg (vp_nar .short x))))
  rw [e1, show mm_cA K.2.2.2.1 t = cA from mm_cA_at hcA]
  rw [vp_cell_i, vp_cell_i, arrV_store]
  congr 2
  funext q
  by_cases hq : q = i.toNatClampNeg
  · subst hq
    simp [updV, upd, vp_nar]
    try rfl
  · simp [updV, upd, vp_nar, hq]
theorem mm_last {t n a : Nat} {f : Nat → Int64} {i : Int32} {x : Int64} (hd : decode cc pc = .ok (.lastore, 1)) (ht : mm_T K t .long) (ha : h.2 a = some (.inl (t, n, .inr (.inl f)))) (hin : vp_in i n) (k : mm_V K d y cc nL rt (pc + 1) L (st) (mm_set h a (.inl (t, n, .inr (.inl (vp_updL f i.toNatClampNeg x))))) kc ks Q) : mm_V K d y cc nL rt (pc) L (.long x :: .int i :: .ref a :: st) h kc ks Q := by
  intro p e R s m args below meth c H locs ls cells slots mc ms X g1 g2 g3 g4 hR hS hl
  obtain ⟨cA, hcA⟩ := ht
  have h1 : H[K.2.2.2.2.2 + a]? = some (vp_cell cA (n, .inr (.inl f))) := by
    have h1 : va_at K.2.1 K.2.2.1 (K.2.2.2.2.2 + a, .inl (mm_cA K.2.2.2.1 t, n, .inr (.inl f))) H := hR.2 a _ ha
    rw [show mm_cA K.2.2.2.1 t = cA from mm_cA_at hcA] at h1
    exact h1
  refine W.last X.1 X.2.1 h1 ((X.2.2.2.2.2.2.2.2.1.2 t _ hcA).1 n (fun j => .long (f j))) (fun q => by cases q) (by show ¬ (i < 0 ∨ (arrV _ _ _).slots.size ≤ _); rw [arrV_size]; exact hin) rfl rfl hd fun H1 e1 z oq => ?_
  refine k p e R s m args below meth c H1 _ ls cells slots mc ms X g1 g2 g3 g4 (hR.set (a := a) ?_ z oq) (hS.put z oq (Nat.le_add_right _ _)) hl
  show H1[K.2.2.2.2.2 + a]? = some (vp_cell (mm_cA K.2.2.2.1 t) (n, .inr (.inl (vp_updL f i.toNatClampNeg x))))
  rw [e1, show mm_cA K.2.2.2.1 t = cA from mm_cA_at hcA]
  rw [vp_cell_l, vp_cell_l, arrV_store]
  congr 2
  funext q
  by_cases hq : q = i.toNatClampNeg
  · subst hq
    simp [updV, vp_updL]
    try rfl
  · simp [updV, vp_updL, hq]
theorem mm_alen {t a : Nat} {ty : FieldType} {x : vp_A} {v : Int32} (hd : decode cc pc = .ok (.arraylength, 1)) (ht : mm_T K t ty) (ha : h.2 a = some (.inl (t, x))) (hv : Int32.ofNat x.1 = v) (k : mm_V K d y cc nL rt (pc + 1) L (.int v :: st) h kc ks Q) : mm_V K d y cc nL rt (pc) L (.ref a :: st) h kc ks Q := by
  intro p e R s m args below meth c H locs ls cells slots mc ms X g1 g2 g3 g4 hR hS hl
  obtain ⟨cA, hcA⟩ := ht
  have hP : va_P K.2.1 K.2.2.1 [(K.2.2.2.2.2 + a, .inl (cA, mm_ar K.2.2.2.2.2 x))] H := fun k q hk => by
    cases k with
    | zero =>
      cases hk
      have h1 : va_at K.2.1 K.2.2.1 (K.2.2.2.2.2 + a, .inl (mm_cA K.2.2.2.1 t, mm_ar K.2.2.2.2.2 x)) H := hR.2 a _ ha
      rw [show mm_cA K.2.2.2.1 t = cA from mm_cA_at hcA] at h1
      exact h1
    | succ k => simp at hk
  exact va_alen X.1 X.2.1 X.2.2.2.2.2.2.2.2.1 hP 0 t rfl hcA (by rw [← hv]; obtain ⟨n, f⟩ := x; rcases f with f | f | f | f | f <;> rfl) hd (k p e R s m args below meth c H locs ls cells slots mc ms X g1 g2 g3 g4 hR hS hl)
/-- what a method's judgement from its entry gives its callers -/
theorem mm_met {y2 : MethodName} {cc2 : ByteArray} {nL2 : Nat} {rt2 : Option FieldType} {d2 k1 s1 : Nat} {As : List Value} {Q1 : Option Value → mm_H → Prop} (hy : plainName y2.cls = true) (hlen : (lg_sl (mm_S K As)).length ≤ nL2)
    (hV : mm_V K d2 y2 cc2 nL2 rt2 0 (lv_args 0 As) [] h k1 s1 Q1) :
    Met K.1 y2 (Cond.code y2 cc2 nL2 rt2 :: K.2.2.2.2.1) ({ frames := d2, cells := k1, slots := s1, locals := 39 * d2 }) (va_Pc (mm_S K As) (fun U => mm_R K h U.heap ∧ va_K K.2.1 K.2.2.1 K.2.2.2.1 U ∧ mm_Nw U)) (mm_Q K Q1) k1 s1 (mm_A K) := by
  refine Met.ofW (cc := cc2) (maxL := nL2) (ret := rt2) hy rfl ?_
  intro p e s m args below meth c s₁ B hml hv
  obtain ⟨rfl, hR, hK, hNw⟩ := hv
  have hts := atoms_spec (ws := Cond.code y2 cc2 nL2 rt2 :: K.2.2.2.2.1) B.pre
  have hl := lv_entry (mm_S K As) (n := nL2) hlen
  rw [mm_args] at hl
  rw [lg_entry_eq]
  exact hV p e _ s m _ below meth c s.heap [] _ 0 0 k1 s1 ⟨B.exec, B.bytes, hml, B.returns, B.notSynchronized, findClass_of_methodNamed B.named, (name_of_methodNamed B.named B.method).1, fun w hw => hts w (List.mem_cons_of_mem _ hw), hK, ⟨Nat.le_refl _, Nat.le_refl _⟩, by rw [hR.1]; exact Nat.le_add_right _ _, hNw⟩ (by omega) (by omega) (Nat.le_refl _) (Nat.le_refl _) hR va_S.rf hl
theorem mm_blind {As : List Value} : FrameBlind (va_Pc (mm_S K As) (fun U => mm_R K h U.heap ∧ va_K K.2.1 K.2.2.1 K.2.2.2.1 U ∧ mm_Nw U)) := fun a U g mk q => by
  obtain ⟨q0, q1, q2, q3⟩ := q
  exact ⟨q0, q1, va_K.moved (u := U) (U := U.calling g mk a) (Vm.Alike.refl U.vm) q2, mm_Nw_s (show U.vm = (U.calling g mk a).vm from rfl) q3⟩
theorem mm_goon {p : Program} {e : Env} {R : Room} {s : State} {m : MethodId} {args : Array Value} {below : List Frame} {meth : Method} {c : Code} {H : Heap} {locs : List Loc} {cells slots k1 s1 : Nat} {QW : State → Prop} {ls : Array Slot} {st0 rest : List Value} {a : Array Value} {Q1 : Option Value → mm_H → Prop}
    (hr : va_Run p K.1 e R s m args below meth c H locs cells slots k1 s1 (F0 m pc ls st0) rest (mm_Q K Q1 a) (mm_A K)) (hS : va_S (mm_A K) s.heap H locs)
    (kk : ∀ (r : Option Value) (h1 : mm_H) (H1 : Heap) (locs1 : List Loc), Q1 r h1 → mm_R K h1 H1 → va_S (mm_A K) s.heap H1 locs1 → W p K.1 e R s m args below meth c H1 locs1 (cells + k1) (slots + s1) QW (F0 m (pc + 3) ls ((r.map (mm_sh K.2.2.2.2.2)).toList ++ rest))) : W p K.1 e R s m args below meth c H locs cells slots QW (F0 m pc ls st0) := by
  intro T hT X
  obtain ⟨v, st₀, t, T', Ls, h0, X', hL, e1, e2, ⟨⟨r, h1, hv, hq, hR1⟩, hz, hk⟩, st⟩ := hr T hT X
  cases hv
  rw [h0] at hz hk
  obtain ⟨t2, a1, b1⟩ := kk r h1 T'.heap (locs ++ Ls) hq (by rw [e1]; exact hR1)
    ⟨Nat.le_trans hS.1 (by rw [e1]; exact hz), fun q h1 h2 => by rw [e1, hk q (Nat.lt_of_lt_of_le h1 hS.1) h2]; exact hS.2.1 q h1 h2, fun q hq => by
      rcases List.mem_append.mp hq with h | h
      · exact hS.2.2 q h
      · exact hL q h⟩ T' rfl X'
  exact ⟨t2, st t2 a1, b1⟩
theorem mm_opt (K : mm_K) (r : Option Value) (rest : List Value) : (r.map (mm_sh K.2.2.2.2.2)).toList ++ mm_S K rest = mm_S K (r.toList ++ rest) := by
  cases r <;> rfl
/-- every word of the tables may be handed on -/
def mm_G (K : mm_K) : Prop := GoodIn K.2.2.2.2.1 K.2.2.2.2.1
theorem mm_good {ws : List Cond} (hG : mm_G K) (h : ∀ w ∈ ws, w ∈ K.2.2.2.2.1) : GoodIn K.2.2.2.2.1 ws := fun w hw => hG w (h w hw)
/-- what the tables say of a call: kind 0 static, 1 virtual (receiver's class), 2 constructor -/
def mm_C (K : mm_K) (own : String) (idx : Nat) (y2 : MethodName) (cc2 : ByteArray) (nL2 : Nat) (rt2 : Option FieldType) (n : Nat) (kd : Cond) : Prop :=
  plainName y2.cls = true ∧ (y2.cls ≠ "java/lang/invoke/MethodHandle" ∧ y2.cls ≠ "java/lang/invoke/VarHandle" ∧ (parseMethodDescriptor y2.desc).map (fun d => d.parameters.length) = some n) ∧
  Cond.methodLink own idx y2 ∈ K.2.2.2.2.1 ∧ kd ∈ K.2.2.2.2.1 ∧ Cond.initialized y2.cls ∈ K.2.2.2.2.1 ∧ Cond.code y2 cc2 nL2 rt2 ∈ K.2.2.2.2.1
theorem mm_callS {idx n k1 s1 d2 : Nat} {y2 : MethodName} {cc2 : ByteArray} {nL2 : Nat} {rt2 : Option FieldType} {As rest : List Value} {Q1 : Option Value → mm_H → Prop} {st0 : List Value} (hd : decode cc pc = .ok (.invokestatic idx, 3)) (hG : mm_G K) (hC : mm_C K y.cls idx y2 cc2 nL2 rt2 n (.static y2)) (hst : st0 = As.reverse ++ rest) (hn : As.length = n) (hcat : (rest.map fun v => v.category).sum ≤ 8) (hlen : (lg_sl (mm_S K As)).length ≤ nL2)
    (hdd : d2 + 1 ≤ d ∧ 19 + nL2 + 39 * d2 ≤ 39 * d) (hV : mm_V K d2 y2 cc2 nL2 rt2 0 (lv_args 0 As) [] h k1 s1 Q1) (hk1 : k1 ≤ kc) (hs1 : s1 ≤ ks)
    (k : ∀ (r : Option Value) (h1 : mm_H), Q1 r h1 → mm_V K d y cc nL rt (pc + 3) L (r.toList ++ rest) h1 (kc - k1) (ks - s1) Q) : mm_V K d y cc nL rt pc L st0 h kc ks Q := by
  intro p e R s m args below meth c H locs ls cells slots mc ms X g1 g2 g3 g4 hR hS hl
  obtain ⟨c1, c2, c4, c5, c6, c7⟩ := hC
  have hts := X.2.2.2.2.2.2.2.1
  have hM := mm_met (As := As) c1 hlen hV
  refine mm_goon (va_runS (As := mm_S K As) (rest := mm_S K rest) ⟨X.1, X.2.1, X.2.2.1, X.2.2.2.2.2.1, hts⟩ hM ⟨callB_of n hts (mm_good hG (fun w hw => by
    rcases List.mem_cons.mp hw with h | h
    · rw [h]; exact c7
    · exact h)) rfl rfl rfl (hts _ c6) (hts _ c4) c2 ⟨by show d2 + 1 ≤ R.frames; have := X.2.2.2.2.2.2.2.2.2.1.1; omega, by show 8 + (nL2 + 11) + 39 * d2 ≤ R.locals; have := X.2.2.2.2.2.2.2.2.2.1.2; omega⟩, hts _ c5⟩ ⟨mm_blind, fun U hU hW => ⟨rfl, by rw [hU]; exact hR, va_K.moved hW.alike X.2.2.2.2.2.2.2.2.1, mm_Nw_w hW X.2.2.2.2.2.2.2.2.2.2.2⟩⟩ rfl (by unfold mm_S; rw [List.length_map]; exact hn) hl.1 (by show mm_S K st0 = _; rw [hst, mm_S_app, mm_S_rev]) (lv_room (by rw [mm_catS]; exact hcat)) hd ⟨by omega, by omega⟩) hS (fun r h1 H1 locs1 hq hR1 hS1 => ?_)
  rw [mm_opt]
  exact k r h1 hq p e R s m args below meth c H1 locs1 ls (cells + k1) (slots + s1) mc ms X (by omega) (by omega) g3 g4 hR1 hS1 hl
theorem mm_callV {idx n k1 s1 o ci N d2 : Nat} {T : u_T} {fs : List Value} {y2 : MethodName} {cc2 : ByteArray} {nL2 : Nat} {rt2 : Option FieldType} {As rest : List Value} {Q1 : Option Value → mm_H → Prop} {st0 : List Value} (hd : decode cc pc = .ok (.invokevirtual idx, 3)) (hG : mm_G K) (hC : mm_C K y.cls idx y2 cc2 nL2 rt2 n (.instanceMethod y2)) (hsel : Cond.selects y2.cls y2 y2 ∈ K.2.2.2.2.1) (hcl : K.2.2.1[ci]? = some (y2.cls, T, N)) (ho : h.2 o = some (.inr (ci, fs))) (hst : st0 = As.reverse ++ .ref o :: rest) (hn : As.length = n) (hcat : (rest.map fun v => v.category).sum ≤ 8) (hlen : (lg_sl (mm_S K (.ref o :: As))).length ≤ nL2)
    (hdd : d2 + 1 ≤ d ∧ 19 + nL2 + 39 * d2 ≤ 39 * d) (hV : mm_V K d2 y2 cc2 nL2 rt2 0 (lv_args 0 (.ref o :: As)) [] h k1 s1 Q1) (hk1 : k1 ≤ kc) (hs1 : s1 ≤ ks)
    (k : ∀ (r : Option Value) (h1 : mm_H), Q1 r h1 → mm_V K d y cc nL rt (pc + 3) L (r.toList ++ rest) h1 (kc - k1) (ks - s1) Q) : mm_V K d y cc nL rt pc L st0 h kc ks Q := by
  intro p e R s m args below meth c H locs ls cells slots mc ms X g1 g2 g3 g4 hR hS hl
  obtain ⟨c1, c2, c4, c5, c6, c7⟩ := hC
  have hts := X.2.2.2.2.2.2.2.1
  have hK := X.2.2.2.2.2.2.2.2.1
  have hM := mm_met (As := .ref o :: As) c1 hlen hV
  have hP : va_P K.2.1 K.2.2.1 [(K.2.2.2.2.2 + o, .inr (ci, fs.map (mm_sh K.2.2.2.2.2)))] H := fun k q hk => by
    cases k with
    | zero => cases hk; exact hR.2 o _ ho
    | succ k => simp at hk
  refine mm_goon (va_runV (C := y2.cls) (b := K.2.2.2.2.2 + o) (As := mm_S K As) (rest := mm_S K rest) ⟨X.1, X.2.1, X.2.2.1, X.2.2.2.2.2.1, hts⟩ hM ⟨callB_of n hts (mm_good hG (fun w hw => by
    rcases List.mem_cons.mp hw with h | h
    · rw [h]; exact c7
    · exact h)) rfl rfl rfl (hts _ c6) (hts _ c4) c2 ⟨by show d2 + 1 ≤ R.frames; have := X.2.2.2.2.2.2.2.2.2.1.1; omega, by show 8 + (nL2 + 11) + 39 * d2 ≤ R.locals; have := X.2.2.2.2.2.2.2.2.2.1.2; omega⟩, hts _ c5, hts _ hsel⟩ ⟨mm_blind, va_recv hK hP (ci := ci) (q0 := 0) hcl rfl, fun U hU hW => ⟨rfl, by rw [hU]; exact hR, va_K.moved hW.alike hK, mm_Nw_w hW X.2.2.2.2.2.2.2.2.2.2.2⟩⟩ rfl (by unfold mm_S; rw [List.length_map]; exact hn) hl.1 (by show mm_S K st0 = _; rw [hst, mm_S_app, mm_S_rev]; rfl) (lv_room (by rw [mm_catS]; exact hcat)) hd ⟨by omega, by omega⟩) hS (fun r h1 H1 locs1 hq hR1 hS1 => ?_)
  rw [mm_opt]
  exact k r h1 hq p e R s m args below meth c H1 locs1 ls (cells + k1) (slots + s1) mc ms X (by omega) (by omega) g3 g4 hR1 hS1 hl
theorem mm_callI {idx n k1 s1 o d2 : Nat} {y2 : MethodName} {cc2 : ByteArray} {nL2 : Nat} {As rest : List Value} {Q1 : Option Value → mm_H → Prop} {st0 : List Value} (hd : decode cc pc = .ok (.invokespecial idx, 3)) (hG : mm_G K) (hC : mm_C K y.cls idx y2 cc2 nL2 none n (.instanceMethod y2)) (hy1 : y2.name = "<init>") (hst : st0 = As.reverse ++ .ref o :: rest) (hn : As.length = n) (hcat : (rest.map fun v => v.category).sum ≤ 8) (hlen : (lg_sl (mm_S K (.ref o :: As))).length ≤ nL2)
    (hdd : d2 + 1 ≤ d ∧ 19 + nL2 + 39 * d2 ≤ 39 * d) (hV : mm_V K d2 y2 cc2 nL2 none 0 (lv_args 0 (.ref o :: As)) [] h k1 s1 Q1) (hk1 : k1 ≤ kc) (hs1 : s1 ≤ ks)
    (k : ∀ (r : Option Value) (h1 : mm_H), Q1 r h1 → mm_V K d y cc nL rt (pc + 3) L (r.toList ++ rest) h1 (kc - k1) (ks - s1) Q) : mm_V K d y cc nL rt pc L st0 h kc ks Q := by
  intro p e R s m args below meth c H locs ls cells slots mc ms X g1 g2 g3 g4 hR hS hl
  obtain ⟨c1, c2, c4, c5, c6, c7⟩ := hC
  have hts := X.2.2.2.2.2.2.2.1
  have hK := X.2.2.2.2.2.2.2.2.1
  have hM := mm_met (As := .ref o :: As) c1 hlen hV
  refine mm_goon (va_runI (b := K.2.2.2.2.2 + o) (As := mm_S K As) (rest := mm_S K rest) ⟨X.1, X.2.1, X.2.2.1, X.2.2.2.2.2.1, hts⟩ hM ⟨callB_of n hts (mm_good hG (fun w hw => by
    rcases List.mem_cons.mp hw with h | h
    · rw [h]; exact c7
    · exact h)) rfl rfl rfl (hts _ c6) (hts _ c4) c2 ⟨by show d2 + 1 ≤ R.frames; have := X.2.2.2.2.2.2.2.2.2.1.1; omega, by show 8 + (nL2 + 11) + 39 * d2 ≤ R.locals; have := X.2.2.2.2.2.2.2.2.2.1.2; omega⟩, hy1, hts _ c5⟩ ⟨mm_blind, fun U hU hW => ⟨rfl, by rw [hU]; exact hR, va_K.moved hW.alike hK, mm_Nw_w hW X.2.2.2.2.2.2.2.2.2.2.2⟩⟩ rfl (by unfold mm_S; rw [List.length_map]; exact hn) hl.1 (by show mm_S K st0 = _; rw [hst, mm_S_app, mm_S_rev]; rfl) (lv_room (by rw [mm_catS]; exact hcat)) hd ⟨by omega, by omega⟩) hS (fun r h1 H1 locs1 hq hR1 hS1 => ?_)
  rw [mm_opt]
  exact k r h1 hq p e R s m args below meth c H1 locs1 ls (cells + k1) (slots + s1) mc ms X (by omega) (by omega) g3 g4 hR1 hS1 hl
/-- Object's constructor -/
theorem mm_objInit {idx o : Nat} (hd : decode cc pc = .ok (.invokespecial idx, 3)) (h1 : Cond.methodLink y.cls idx objectInit ∈ K.2.2.2.2.1) (h2 : Cond.instanceMethod objectInit ∈ K.2.2.2.2.1) (h3 : Cond.code objectInit ⟨#[0xb1]⟩ 1 none ∈ K.2.2.2.2.1) (hcat : (st.map fun v => v.category).sum ≤ 8) (k : mm_V K (d + 1) y cc nL rt (pc + 3) L st h kc ks Q) : mm_V K (d + 1) y cc nL rt pc L (.ref o :: st) h kc ks Q := by
  intro p e R s m args below meth c H locs ls cells slots mc ms X g1 g2 g3 g4 hR hS hl
  have hts := X.2.2.2.2.2.2.2.1
  have hc := mm_catS K st
  refine W.objInit X.1 X.2.1 X.2.2.2.2.2.1 (hts _ h1) (hts _ h2) (hts _ h3) rfl (by rw [X.2.2.1]; exact hl.1) rfl hd (by have := X.2.2.2.2.2.2.2.2.2.1.1; omega) (by show 2 * 0 + ((mm_S K st).map fun v => v.category).sum + 12 ≤ R.locals; rw [hc]; have := X.2.2.2.2.2.2.2.2.2.1.2; omega) ?_
  exact k p e R s m args below meth c H locs ls cells slots mc ms X g1 g2 g3 g4 hR hS hl
/-- a new object -/
theorem mm_newo {idx ci N : Nat} {C : String} {T : u_T} {fs : List Value} (ty : Nat → FieldType) (hd : decode cc pc = .ok (.new idx, 3)) (hcl : K.2.2.1[ci]? = some (C, T, N)) (hin : ∀ w ∈ u_ws C T N, w ∈ K.2.2.2.2.1) (hty : ∀ k, k < N → parseFieldDescriptor (T k).2.2.1 = some (ty k)) (h1 : Cond.classLink y.cls idx C ∈ K.2.2.2.2.1) (h2 : Cond.instantiable C N ∈ K.2.2.2.2.1) (h3 : Cond.initialized C ∈ K.2.2.2.2.1) (hfs : ∀ j, j < N → defaultValue (ty j) = vp_V fs j) (hnr : fs.map (mm_sh K.2.2.2.2.2) = fs) (hkc : 1 ≤ kc) (hks : N ≤ ks)
    (k : mm_V K d y cc nL rt (pc + 3) L (.ref h.1 :: st) (mm_new h (.inr (ci, fs))) (kc - 1) (ks - N) Q) : mm_V K d y cc nL rt pc L st h kc ks Q := by
  intro p e R s m args below meth c H locs ls cells slots mc ms X g1 g2 g3 g4 hR hS hl
  have hts := X.2.2.2.2.2.2.2.1
  have hK := X.2.2.2.2.2.2.2.2.1
  have hKn := hK.1 ci _ hcl
  refine W.newcK X.1 X.2.1 X.2.2.2.2.2.1 (hts _ h1) (hts _ h2) (hts _ h3) rfl hd (by omega) (by omega) hKn.2.1 rfl fun H1 kC hkC e1 z1 o1 => ?_
  rw [hR.1] at e1 ⊢
  refine k p e R s m args below meth c H1 locs ls (cells + 1) (slots + N) mc ms X (by omega) (by omega) g3 g4 (hR.new (e := .inr (ci, fs)) ?_ z1 o1) ⟨Nat.le_trans hS.1 (by omega), fun x h1 h2 => (o1 x (Nat.lt_of_lt_of_le h1 hS.1)).trans (hS.2.1 x h1 h2), hS.2.2⟩ hl
  show va_at _ _ (_, Sum.inr (ci, fs.map _)) H1
  rw [hnr]
  exact ⟨_, hcl, (u_born ty hts hin hKn hkC e1 hty).to hfs⟩
/-- a new array of numbers -/
theorem mm_newa {t N' : Nat} {ty : FieldType} {atype : ArrayType} {n : Int32} {a0 : vp_A} (hd : decode cc pc = .ok (.newarray atype, 2)) (ht : mm_T K t ty) (hty : newarray.typeOf atype = ty) (hprim : ∀ cA : ClassId, (∀ U : State, va_RA U cA ty → U.vm.findClass ("[" ++ ty.toString) = some cA)) (h1 : Cond.arrayClass ty ∈ K.2.2.2.2.1) (ha : ∀ cA : ClassId, vp_cell cA (mm_ar K.2.2.2.2.2 a0) = arrV cA N' (fun _ => defaultValue ty)) (hn : ¬ n < 0) (hN : n.toNatClampNeg = N') (hb : N' * componentBytes ty ≤ 536870912) (hkc : 1 ≤ kc) (hks : N' ≤ ks)
    (k : mm_V K d y cc nL rt (pc + 2) L (.ref h.1 :: st) (mm_new h (.inl (t, a0))) (kc - 1) (ks - N') Q) : mm_V K d y cc nL rt pc L (.int n :: st) h kc ks Q := by
  intro p e R s m args below meth c H locs ls cells slots mc ms X g1 g2 g3 g4 hR hS hl
  have hts := X.2.2.2.2.2.2.2.1
  have hK := X.2.2.2.2.2.2.2.2.1
  obtain ⟨cA, hcA⟩ := ht
  subst hty
  refine va_newaK X.1 X.2.1 (hts _ h1) rfl hd rfl hn hN hb (by omega) (by omega) rfl fun H1 cA' e1 z1 o1 hAr hNm => ?_
  have hc : cA' = cA := by
    have h2 := hprim cA s (hK.2 t _ hcA).2
    exact Option.some.inj (hNm.symm.trans h2)
  subst hc
  rw [hR.1] at e1 ⊢
  refine k p e R s m args below meth c H1 locs ls (cells + 1) (slots + N') mc ms X (by omega) (by omega) g3 g4 (hR.new (e := .inl (t, a0)) ?_ (by rw [z1]) o1) ⟨Nat.le_trans hS.1 (by omega), fun x h1 h2 => (o1 x (Nat.lt_of_lt_of_le h1 hS.1)).trans (hS.2.1 x h1 h2), hS.2.2⟩ hl
  show H1[K.2.2.2.2.2 + h.1]? = some (vp_cell (mm_cA K.2.2.2.1 t) (mm_ar K.2.2.2.2.2 a0))
  rw [show mm_cA K.2.2.2.1 t = cA' from mm_cA_at hcA, ha]
  exact e1
theorem mm_mono {d2 : Nat} (hd : d ≤ d2) (hV : mm_V K d y cc nL rt pc L st h kc ks Q) : mm_V K d2 y cc nL rt pc L st h kc ks Q :=
  fun p e R s m args below meth c H locs ls cells slots mc ms X => hV p e R s m args below meth c H locs ls cells slots mc ms ⟨X.1, X.2.1, X.2.2.1, X.2.2.2.1, X.2.2.2.2.1, X.2.2.2.2.2.1, X.2.2.2.2.2.2.1, X.2.2.2.2.2.2.2.1, X.2.2.2.2.2.2.2.2.1, ⟨Nat.le_trans hd X.2.2.2.2.2.2.2.2.2.1.1, Nat.le_trans (Nat.mul_le_mul_left 39 hd) X.2.2.2.2.2.2.2.2.2.1.2⟩, X.2.2.2.2.2.2.2.2.2.2⟩
theorem mm_weak {Q2 : Option Value → mm_H → Prop} (hV : mm_V K d y cc nL rt pc L st h kc ks Q) (hq : ∀ r h', Q r h' → Q2 r h') : mm_V K d y cc nL rt pc L st h kc ks Q2 := by
  intro p e R s m args below meth c H locs ls cells slots mc ms X g1 g2 g3 g4 hR hS hl T hT XT
  obtain ⟨t, a1, o, b1, b2, ⟨⟨r, h', e1, e2, e3⟩, b4⟩, b5⟩ := hV p e R s m args below meth c H locs ls cells slots mc ms X g1 g2 g3 g4 hR hS hl T hT XT
  exact ⟨t, a1, o, b1, b2, ⟨⟨r, h', e1, hq r h' e2, e3⟩, b4⟩, b5⟩
end MMR
