/-! THE SMALL MACHINE: frames over an abstract heap (entries by addresses from 0 on; the machine's are shifted by a base). mm_V is the judgement: in every machine state that holds the abstract one, the method goes on from here to its return, with Q of answer and heap. -/
abbrev mm_K : Type := Launch × va_G × List vw_C × List (ClassId × FieldType) × List Cond × Nat
abbrev mm_E : Type := (Nat × vp_A) ⊕ (Nat × List Value)
abbrev mm_H : Type := Nat × (Nat → Option mm_E)
def mm_sh (b : Nat) (v : Value) : Value := match v with
  | .ref a => .ref (b + a)
  | .int x => .int x
  | .long x => .long x
  | .null => .null
  | .float x => .float x
  | .double x => .double x
  | .retAddr x => .retAddr x
def mm_ar (b : Nat) (a : vp_A) : vp_A := match a.2 with
  | .inl f => (a.1, .inl f)
  | .inr (.inl f) => (a.1, .inr (.inl f))
  | .inr (.inr (.inl f)) => (a.1, .inr (.inr (.inl f)))
  | .inr (.inr (.inr (.inl f))) => (a.1, .inr (.inr (.inr (.inl f))))
  | .inr (.inr (.inr (.inr f))) => (a.1, .inr (.inr (.inr (.inr (fun j => (f j).map (fun q => b + q))))))
def mm_cA (tys : List (ClassId × FieldType)) (t : Nat) : ClassId := ((tys[t]?).map (fun q => q.1)).getD 0
def mm_tr (K : mm_K) (e : mm_E) : va_E := match e with
  | .inl a => .inl (mm_cA K.2.2.2.1 a.1, mm_ar K.2.2.2.2.2 a.2)
  | .inr o => .inr (o.1, o.2.map (mm_sh K.2.2.2.2.2))
def mm_A (K : mm_K) : Nat → Prop := fun q => K.2.2.2.2.2 ≤ q
def mm_R (K : mm_K) (h : mm_H) (H : Heap) : Prop := H.size = K.2.2.2.2.2 + h.1 ∧ ∀ (a : Nat) (e : mm_E), h.2 a = some e → va_at K.2.1 K.2.2.1 (K.2.2.2.2.2 + a, mm_tr K e) H
def mm_set (h : mm_H) (a : Nat) (e : mm_E) : mm_H := (h.1, fun k => if k = a then some e else h.2 k)
def mm_new (h : mm_H) (e : mm_E) : mm_H := (h.1 + 1, fun k => if k = h.1 then some e else h.2 k)
def mm_L (K : mm_K) (L : List (Nat × Value)) : List (Nat × Value) := L.map (fun q => (q.1, mm_sh K.2.2.2.2.2 q.2))
def mm_S (K : mm_K) (st : List Value) : List Value := st.map (mm_sh K.2.2.2.2.2)
/-- links of nest mates, arrays of references: words that hold all the way -/
def mm_Nw (s : State) : Prop := ∀ w ∈ mm_N, va_Nw w s
def mm_X (K : mm_K) (d : Nat) (y : MethodName) (cc : ByteArray) (nL : Nat) (rt : Option FieldType) (p : Program) (R : Room) (s : State) (m : MethodId) (args : Array Value) (meth : Method) (c : Code) : Prop :=
  p.tables.exec = Jvm.exec ∧ c.code = cc ∧ c.maxLocals = nL ∧ meth.sig.returnType = rt ∧ meth.locks = false ∧ s.vm.findClass y.cls = some m.cls ∧ meth.name = y.name ∧ (∀ w ∈ K.2.2.2.2.1, w.before args s = true) ∧ va_K K.2.1 K.2.2.1 K.2.2.2.1 s ∧ (d ≤ R.frames ∧ 39 * d ≤ R.locals) ∧ K.2.2.2.2.2 ≤ s.heap.size ∧ mm_Nw s
def mm_Q (K : mm_K) (Q : Option Value → mm_H → Prop) : Array Value → State → Outcome → State → Prop := fun _ st o t => (∃ (r : Option Value) (h : mm_H), o = .returned (r.map (mm_sh K.2.2.2.2.2)) ∧ Q r h ∧ mm_R K h t.heap) ∧ va_F (mm_A K) st t
def mm_V (K : mm_K) (d : Nat) (y : MethodName) (cc : ByteArray) (nL : Nat) (rt : Option FieldType) (pc : Nat) (L : List (Nat × Value)) (st : List Value) (h : mm_H) (kc ks : Nat) (Q : Option Value → mm_H → Prop) : Prop :=
  ∀ (p : Program) (e : Env) (R : Room) (s : State) (m : MethodId) (args : Array Value) (below : List Frame) (meth : Method) (c : Code) (H : Heap) (locs : List Loc) (ls : Array Slot) (cells slots mc ms : Nat),
    mm_X K d y cc nL rt p R s m args meth c → cells + kc ≤ mc → slots + ks ≤ ms → mc ≤ R.cells → ms ≤ R.slots → mm_R K h H → va_S (mm_A K) s.heap H locs → lv_has ls nL (mm_L K L) →
    W p K.1 e R s m args below meth c H locs cells slots (MQ below (mm_Q K Q) args s mc ms (mm_A K)) (F0 m pc ls (mm_S K st))
theorem mm_cat (b : Nat) (v : Value) : (mm_sh b v).category = v.category := by cases v <;> rfl
theorem mm_catS (K : mm_K) (st : List Value) : ((mm_S K st).map fun v => v.category).sum = (st.map fun v => v.category).sum := by
  unfold mm_S
  rw [List.map_map]
  congr 1
  apply List.map_congr_left
  intro v _
  exact mm_cat _ v
theorem mm_S_app (K : mm_K) (a b : List Value) : mm_S K (a ++ b) = mm_S K a ++ mm_S K b := List.map_append
theorem mm_S_rev (K : mm_K) (a : List Value) : mm_S K a.reverse = (mm_S K a).reverse := by unfold mm_S; exact List.map_reverse
theorem mm_L_at {K : mm_K} {ls : Array Slot} {nL : Nat} {L : List (Nat × Value)} (h : lv_has ls nL (mm_L K L)) (k : Nat) {i : Nat} {v : Value} (hk : L[k]? = some (i, v)) : ls[i]? = some (.val (mm_sh K.2.2.2.2.2 v)) :=
  lv_at h k (by unfold mm_L; rw [List.getElem?_map, hk]; rfl)
theorem mm_L_filter (K : mm_K) (f : Nat → Nat → Bool) (L : List (Nat × Value)) : (mm_L K L).filter (fun q => f q.1 q.2.category) = mm_L K (L.filter (fun q => f q.1 q.2.category)) := by
  unfold mm_L
  rw [List.filter_map]
  congr 1
  apply List.filter_congr
  intro q _
  simp only [Function.comp, mm_cat]
theorem mm_st1 (K : mm_K) (i : Nat) (v : Value) (L : List (Nat × Value)) : (i, mm_sh K.2.2.2.2.2 v) :: (mm_L K L).filter (fun q => !(q.1 == i) && !(q.1 + 1 == i && q.2.category == 2)) = mm_L K ((i, v) :: L.filter (fun q => !(q.1 == i) && !(q.1 + 1 == i && q.2.category == 2))) := by
  rw [mm_L_filter K (fun a c => !(a == i) && !(a + 1 == i && c == 2))]
  rfl
theorem mm_st2 (K : mm_K) (i : Nat) (v : Value) (L : List (Nat × Value)) : (i, mm_sh K.2.2.2.2.2 v) :: (mm_L K L).filter (fun q => !(q.1 == i) && (!(q.1 == i + 1) && !(q.1 + 1 == i && q.2.category == 2))) = mm_L K ((i, v) :: L.filter (fun q => !(q.1 == i) && (!(q.1 == i + 1) && !(q.1 + 1 == i && q.2.category == 2)))) := by
  rw [mm_L_filter K (fun a c => !(a == i) && (!(a == i + 1) && !(a + 1 == i && c == 2)))]
  rfl
theorem mm_args (K : mm_K) : ∀ (vs : List Value) (i : Nat), lv_args i (mm_S K vs) = mm_L K (lv_args i vs)
  | [], _ => rfl
  | v :: vs, i => by
    show (i, mm_sh _ v) :: lv_args _ (mm_S K vs) = (i, mm_sh _ v) :: mm_L K (lv_args _ vs)
    rw [mm_cat, mm_args K vs]
theorem mm_R.lt {K : mm_K} {h : mm_H} {H : Heap} (hR : mm_R K h H) {a : Nat} {e : mm_E} (ha : h.2 a = some e) : a < h.1 := by
  have h1 : K.2.2.2.2.2 + a < H.size := va_at.lt (hR.2 a e ha)
  have h2 := hR.1
  omega
theorem mm_R.set {K : mm_K} {h : mm_H} {H H1 : Heap} (hR : mm_R K h H) {a : Nat} {e : mm_E} (he : va_at K.2.1 K.2.2.1 (K.2.2.2.2.2 + a, mm_tr K e) H1) (z : H1.size = H.size) (oq : ∀ q : Nat, q ≠ K.2.2.2.2.2 + a → H1[q]? = H[q]?) : mm_R K (mm_set h a e) H1 := by
  refine ⟨by rw [z]; exact hR.1, fun k x hx => ?_⟩
  unfold mm_set at hx
  dsimp only at hx
  by_cases hk : k = a
  · subst hk
    rw [if_pos rfl] at hx
    cases hx
    exact he
  · rw [if_neg hk] at hx
    exact va_at.kept (hR.2 k x hx) (oq _ (by omega))
theorem mm_R.new {K : mm_K} {h : mm_H} {H H1 : Heap} (hR : mm_R K h H) {e : mm_E} (he : va_at K.2.1 K.2.2.1 (K.2.2.2.2.2 + h.1, mm_tr K e) H1) (z : H1.size = H.size + 1) (oq : ∀ q : Nat, q < H.size → H1[q]? = H[q]?) : mm_R K (mm_new h e) H1 := by
  have h0 := hR.1
  refine ⟨by rw [z, h0]; unfold mm_new; dsimp only; omega, fun k x hx => ?_⟩
  unfold mm_new at hx
  dsimp only at hx
  by_cases hk : k = h.1
  · subst hk
    rw [if_pos rfl] at hx
    cases hx
    exact he
  · rw [if_neg hk] at hx
    have h1 := hR.2 k x hx
    exact va_at.kept h1 (oq _ (va_at.lt h1))

section MMR
variable {K : mm_K} {d : Nat} {y : MethodName} {cc : ByteArray} {nL : Nat} {rt : Option FieldType} {pc : Nat} {L : List (Nat × Value)} {st : List Value} {h : mm_H} {kc ks : Nat} {Q : Option Value → mm_H → Prop}
theorem mm_iconst {n : Int} {v : Int32} (hd : decode cc pc = .ok (.iconst n, 1)) (hv : Int32.ofInt n = v) (k : mm_V K d y cc nL rt (pc + 1) L (.int v :: st) h kc ks Q) : mm_V K d y cc nL rt (pc) L (st) h kc ks Q := by
  intro p e R s m args below meth c H locs ls cells slots mc ms X g1 g2 g3 g4 hR hS hl
  exact lv_iconst X.1 X.2.1 hd hv (k p e R s m args below meth c H locs ls cells slots mc ms X g1 g2 g3 g4 hR hS hl)
theorem mm_bipush {n : Int} {v : Int32} (hd : decode cc pc = .ok (.bipush n, 2)) (hv : (Int8.ofInt n).toInt32 = v) (k : mm_V K d y cc nL rt (pc + 2) L (.int v :: st) h kc ks Q) : mm_V K d y cc nL rt (pc) L (st) h kc ks Q := by
  intro p e R s m args below meth c H locs ls cells slots mc ms X g1 g2 g3 g4 hR hS hl
  exact lv_bipush X.1 X.2.1 hd hv (k p e R s m args below meth c H locs ls cells slots mc ms X g1 g2 g3 g4 hR hS hl)
theorem mm_sipush {n : Int} {v : Int32} (hd : decode cc pc = .ok (.sipush n, 3)) (hv : (Int16.ofInt n).toInt32 = v) (k : mm_V K d y cc nL rt (pc + 3) L (.int v :: st) h kc ks Q) : mm_V K d y cc nL rt (pc) L (st) h kc ks Q := by
  intro p e R s m args below meth c H locs ls cells slots mc ms X g1 g2 g3 g4 hR hS hl
  exact lv_sipush X.1 X.2.1 hd hv (k p e R s m args below meth c H locs ls cells slots mc ms X g1 g2 g3 g4 hR hS hl)
theorem mm_lconst {n : Fin 2} {v : Int64} (hd : decode cc pc = .ok (.lconst n, 1)) (hv : Int64.ofNat (n : Nat) = v) (k : mm_V K d y cc nL rt (pc + 1) L (.long v :: st) h kc ks Q) : mm_V K d y cc nL rt (pc) L (st) h kc ks Q := by
  intro p e R s m args below meth c H locs ls cells slots mc ms X g1 g2 g3 g4 hR hS hl
  exact lv_lconst X.1 X.2.1 hd hv (k p e R s m args below meth c H locs ls cells slots mc ms X g1 g2 g3 g4 hR hS hl)
theorem mm_null (hd : decode cc pc = .ok (.aconst_null, 1)) (k : mm_V K d y cc nL rt (pc + 1) L (.null :: st) h kc ks Q) : mm_V K d y cc nL rt (pc) L (st) h kc ks Q := by
  intro p e R s m args below meth c H locs ls cells slots mc ms X g1 g2 g3 g4 hR hS hl
  exact lv_null X.1 X.2.1 hd (k p e R s m args below meth c H locs ls cells slots mc ms X g1 g2 g3 g4 hR hS hl)
theorem mm_ldc {n : Nat} {v : Int32} (hd : decode cc pc = .ok (.ldc n, 2)) (hc : Jvm.Cond.constant y.cls n v ∈ K.2.2.2.2.1) (k : mm_V K d y cc nL rt (pc + 2) L (.int v :: st) h kc ks Q) : mm_V K d y cc nL rt (pc) L (st) h kc ks Q := by
  intro p e R s m args below meth c H locs ls cells slots mc ms X g1 g2 g3 g4 hR hS hl
  exact lv_ldc X.1 X.2.1 X.2.2.2.2.2.1 (X.2.2.2.2.2.2.2.1 _ hc) hd (k p e R s m args below meth c H locs ls cells slots mc ms X g1 g2 g3 g4 hR hS hl)
theorem mm_ldc2 {n : Nat} {v : Int64} (hd : decode cc pc = .ok (.ldc2_w n, 3)) (hc : Jvm.Cond.constantLong y.cls n v ∈ K.2.2.2.2.1) (k : mm_V K d y cc nL rt (pc + 3) L (.long v :: st) h kc ks Q) : mm_V K d y cc nL rt (pc) L (st) h kc ks Q := by
  intro p e R s m args below meth c H locs ls cells slots mc ms X g1 g2 g3 g4 hR hS hl
  exact lv_ldc2 X.1 X.2.1 X.2.2.2.2.2.1 (X.2.2.2.2.2.2.2.1 _ hc) hd (k p e R s m args below meth c H locs ls cells slots mc ms X g1 g2 g3 g4 hR hS hl)
theorem mm_iload {i : Nat} {x : Int32} (hd : decode cc pc = .ok (.iload i, 2)) (j : Nat) (hj : L[j]? = some (i, .int x)) (k : mm_V K d y cc nL rt (pc + 2) L (.int x :: st) h kc ks Q) : mm_V K d y cc nL rt (pc) L (st) h kc ks Q := by
  intro p e R s m args below meth c H locs ls cells slots mc ms X g1 g2 g3 g4 hR hS hl
  exact lv_iload X.1 X.2.1 hd (mm_L_at hl j hj) (k p e R s m args below meth c H locs ls cells slots mc ms X g1 g2 g3 g4 hR hS hl)
theorem mm_iload_n {i : Fin 4} {i0 : Nat} {x : Int32} (hd : decode cc pc = .ok (.iload_n i, 1)) (hi : (i : Nat) = i0) (j : Nat) (hj : L[j]? = some (i0, .int x)) (k : mm_V K d y cc nL rt (pc + 1) L (.int x :: st) h kc ks Q) : mm_V K d y cc nL rt (pc) L (st) h kc ks Q := by
  intro p e R s m args below meth c H locs ls cells slots mc ms X g1 g2 g3 g4 hR hS hl
  exact lv_iload_n X.1 X.2.1 hd hi (mm_L_at hl j hj) (k p e R s m args below meth c H locs ls cells slots mc ms X g1 g2 g3 g4 hR hS hl)
theorem mm_lload {i : Nat} {x : Int64} (hd : decode cc pc = .ok (.lload i, 2)) (j : Nat) (hj : L[j]? = some (i, .long x)) (k : mm_V K d y cc nL rt (pc + 2) L (.long x :: st) h kc ks Q) : mm_V K d y cc nL rt (pc) L (st) h kc ks Q := by
  intro p e R s m args below meth c H locs ls cells slots mc ms X g1 g2 g3 g4 hR hS hl
  exact lv_lload X.1 X.2.1 hd (mm_L_at hl j hj) (k p e R s m args below meth c H locs ls cells slots mc ms X g1 g2 g3 g4 hR hS hl)
theorem mm_lload_n {i : Fin 4} {i0 : Nat} {x : Int64} (hd : decode cc pc = .ok (.lload_n i, 1)) (hi : (i : Nat) = i0) (j : Nat) (hj : L[j]? = some (i0, .long x)) (k : mm_V K d y cc nL rt (pc + 1) L (.long x :: st) h kc ks Q) : mm_V K d y cc nL rt (pc) L (st) h kc ks Q := by
  intro p e R s m args below meth c H locs ls cells slots mc ms X g1 g2 g3 g4 hR hS hl
  exact lv_lload_n X.1 X.2.1 hd hi (mm_L_at hl j hj) (k p e R s m args below meth c H locs ls cells slots mc ms X g1 g2 g3 g4 hR hS hl)
theorem mm_aload {i : Nat} {x : Nat} (hd : decode cc pc = .ok (.aload i, 2)) (j : Nat) (hj : L[j]? = some (i, .ref x)) (k : mm_V K d y cc nL rt (pc + 2) L (.ref x :: st) h kc ks Q) : mm_V K d y cc nL rt (pc) L (st) h kc ks Q := by
  intro p e R s m args below meth c H locs ls cells slots mc ms X g1 g2 g3 g4 hR hS hl
  exact lv_aload X.1 X.2.1 hd (mm_L_at hl j hj) (k p e R s m args below meth c H locs ls cells slots mc ms X g1 g2 g3 g4 hR hS hl)
theorem mm_aload_n {i : Fin 4} {i0 x : Nat} (hd : decode cc pc = .ok (.aload_n i, 1)) (hi : (i : Nat) = i0) (j : Nat) (hj : L[j]? = some (i0, .ref x)) (k : mm_V K d y cc nL rt (pc + 1) L (.ref x :: st) h kc ks Q) : mm_V K d y cc nL rt (pc) L (st) h kc ks Q := by
  intro p e R s m args below meth c H locs ls cells slots mc ms X g1 g2 g3 g4 hR hS hl
  exact lv_aload_n X.1 X.2.1 hd hi (mm_L_at hl j hj) (k p e R s m args below meth c H locs ls cells slots mc ms X g1 g2 g3 g4 hR hS hl)
theorem mm_istore {i : Nat} {x : Int32} {L' : List (Nat × Value)} (hd : decode cc pc = .ok (.istore i, 2)) (hn : i < nL) (hL : (i, Value.int x) :: L.filter (fun q => !(q.1 == i) && !(q.1 + 1 == i && q.2.category == 2)) = L') (k : mm_V K d y cc nL rt (pc + 2) L' (st) h kc ks Q) : mm_V K d y cc nL rt (pc) L (.int x :: st) h kc ks Q := by
  intro p e R s m args below meth c H locs ls cells slots mc ms X g1 g2 g3 g4 hR hS hl
  exact lv_istore X.1 X.2.1 hd hl hn (mm_st1 K i (Value.int x) L) (fun ls hl => k p e R s m args below meth c H locs ls cells slots mc ms X g1 g2 g3 g4 hR hS (by rw [← hL]; exact hl))
theorem mm_istore_n {i0 : Fin 4} {i : Nat} {x : Int32} {L' : List (Nat × Value)} (hd : decode cc pc = .ok (.istore_n i0, 1)) (hi : (i0 : Nat) = i) (hn : i < nL) (hL : (i, Value.int x) :: L.filter (fun q => !(q.1 == i) && !(q.1 + 1 == i && q.2.category == 2)) = L') (k : mm_V K d y cc nL rt (pc + 1) L' (st) h kc ks Q) : mm_V K d y cc nL rt (pc) L (.int x :: st) h kc ks Q := by
  intro p e R s m args below meth c H locs ls cells slots mc ms X g1 g2 g3 g4 hR hS hl
  exact lv_istore_n X.1 X.2.1 hd hi hl hn (mm_st1 K i (Value.int x) L) (fun ls hl => k p e R s m args below meth c H locs ls cells slots mc ms X g1 g2 g3 g4 hR hS (by rw [← hL]; exact hl))
theorem mm_lstore {i : Nat} {x : Int64} {L' : List (Nat × Value)} (hd : decode cc pc = .ok (.lstore i, 2)) (hn : i + 1 < nL) (hL : (i, Value.long x) :: L.filter (fun q => !(q.1 == i) && (!(q.1 == i + 1) && !(q.1 + 1 == i && q.2.category == 2))) = L') (k : mm_V K d y cc nL rt (pc + 2) L' (st) h kc ks Q) : mm_V K d y cc nL rt (pc) L (.long x :: st) h kc ks Q := by
  intro p e R s m args below meth c H locs ls cells slots mc ms X g1 g2 g3 g4 hR hS hl
  exact lv_lstore X.1 X.2.1 hd hl hn (mm_st2 K i (Value.long x) L) (fun ls hl => k p e R s m args below meth c H locs ls cells slots mc ms X g1 g2 g3 g4 hR hS (by rw [← hL]; exact hl))
theorem mm_lstore_n {i0 : Fin 4} {i : Nat} {x : Int64} {L' : List (Nat × Value)} (hd : decode cc pc = .ok (.lstore_n i0, 1)) (hi : (i0 : Nat) = i) (hn : i + 1 < nL) (hL : (i, Value.long x) :: L.filter (fun q => !(q.1 == i) && (!(q.1 == i + 1) && !(q.1 + 1 == i && q.2.category == 2))) = L') (k : mm_V K d y cc nL rt (pc + 1) L' (st) h kc ks Q) : mm_V K d y cc nL rt (pc) L (.long x :: st) h kc ks Q := by
  intro p e R s m args below meth c H locs ls cells slots mc ms X g1 g2 g3 g4 hR hS hl
  exact lv_lstore_n X.1 X.2.1 hd hi hl hn (mm_st2 K i (Value.long x) L) (fun ls hl => k p e R s m args below meth c H locs ls cells slots mc ms X g1 g2 g3 g4 hR hS (by rw [← hL]; exact hl))
theorem mm_astore {i : Nat} {x : Nat} {L' : List (Nat × Value)} (hd : decode cc pc = .ok (.astore i, 2)) (hn : i < nL) (hL : (i, Value.ref x) :: L.filter (fun q => !(q.1 == i) && !(q.1 + 1 == i && q.2.category == 2)) = L') (k : mm_V K d y cc nL rt (pc + 2) L' (st) h kc ks Q) : mm_V K d y cc nL rt (pc) L (.ref x :: st) h kc ks Q := by
  intro p e R s m args below meth c H locs ls cells slots mc ms X g1 g2 g3 g4 hR hS hl
  exact lv_astore X.1 X.2.1 hd hl hn (mm_st1 K i (Value.ref x) L) (fun ls hl => k p e R s m args below meth c H locs ls cells slots mc ms X g1 g2 g3 g4 hR hS (by rw [← hL]; exact hl))
theorem mm_astore_n {i0 : Fin 4} {i : Nat} {x : Nat} {L' : List (Nat × Value)} (hd : decode cc pc = .ok (.astore_n i0, 1)) (hi : (i0 : Nat) = i) (hn : i < nL) (hL : (i, Value.ref x) :: L.filter (fun q => !(q.1 == i) && !(q.1 + 1 == i && q.2.category == 2)) = L') (k : mm_V K d y cc nL rt (pc + 1) L' (st) h kc ks Q) : mm_V K d y cc nL rt (pc) L (.ref x :: st) h kc ks Q := by
  intro p e R s m args below meth c H locs ls cells slots mc ms X g1 g2 g3 g4 hR hS hl
  exact lv_astore_n X.1 X.2.1 hd hi hl hn (mm_st1 K i (Value.ref x) L) (fun ls hl => k p e R s m args below meth c H locs ls cells slots mc ms X g1 g2 g3 g4 hR hS (by rw [← hL]; exact hl))
theorem mm_iinc {i : Nat} {n : Int} {x v : Int32} {L' : List (Nat × Value)} (hd : decode cc pc = .ok (.iinc i n, 3)) (j : Nat) (hj : L[j]? = some (i, .int x)) (hv : x + Int32.ofInt n = v) (hn : i < nL) (hL : (i, Value.int v) :: L.filter (fun q => !(q.1 == i) && !(q.1 + 1 == i && q.2.category == 2)) = L') (k : mm_V K d y cc nL rt (pc + 3) L' (st) h kc ks Q) : mm_V K d y cc nL rt (pc) L (st) h kc ks Q := by
  intro p e R s m args below meth c H locs ls cells slots mc ms X g1 g2 g3 g4 hR hS hl
  exact lv_iinc X.1 X.2.1 hd hl (k := j) (by unfold mm_L; rw [List.getElem?_map, hj]; rfl) hv hn (mm_st1 K i (Value.int v) L) (fun ls hl => k p e R s m args below meth c H locs ls cells slots mc ms X g1 g2 g3 g4 hR hS (by rw [← hL]; exact hl))
theorem mm_iadd {x z : Int32} (hd : decode cc pc = .ok (.iadd, 1)) (k : mm_V K d y cc nL rt (pc + 1) L (.int (x + z) :: st) h kc ks Q) : mm_V K d y cc nL rt (pc) L (.int z :: .int x :: st) h kc ks Q := by
  intro p e R s m args below meth c H locs ls cells slots mc ms X g1 g2 g3 g4 hR hS hl
  exact lv_iadd X.1 X.2.1 hd (k p e R s m args below meth c H locs ls cells slots mc ms X g1 g2 g3 g4 hR hS hl)
theorem mm_isub {x z : Int32} (hd : decode cc pc = .ok (.isub, 1)) (k : mm_V K d y cc nL rt (pc + 1) L (.int (x - z) :: st) h kc ks Q) : mm_V K d y cc nL rt (pc) L (.int z :: .int x :: st) h kc ks Q := by
  intro p e R s m args below meth c H locs ls cells slots mc ms X g1 g2 g3 g4 hR hS hl
  exact lv_isub X.1 X.2.1 hd (k p e R s m args below meth c H locs ls cells slots mc ms X g1 g2 g3 g4 hR hS hl)
theorem mm_imul {x z : Int32} (hd : decode cc pc = .ok (.imul, 1)) (k : mm_V K d y cc nL rt (pc + 1) L (.int (x * z) :: st) h kc ks Q) : mm_V K d y cc nL rt (pc) L (.int z :: .int x :: st) h kc ks Q := by
  intro p e R s m args below meth c H locs ls cells slots mc ms X g1 g2 g3 g4 hR hS hl
  exact lv_imul X.1 X.2.1 hd (k p e R s m args below meth c H locs ls cells slots mc ms X g1 g2 g3 g4 hR hS hl)
theorem mm_iand {x z : Int32} (hd : decode cc pc = .ok (.iand, 1)) (k : mm_V K d y cc nL rt (pc + 1) L (.int (x &&& z) :: st) h kc ks Q) : mm_V K d y cc nL rt (pc) L (.int z :: .int x :: st) h kc ks Q := by
  intro p e R s m args below meth c H locs ls cells slots mc ms X g1 g2 g3 g4 hR hS hl
  exact lv_iand X.1 X.2.1 hd (k p e R s m args below meth c H locs ls cells slots mc ms X g1 g2 g3 g4 hR hS hl)
theorem mm_ior {x z : Int32} (hd : decode cc pc = .ok (.ior, 1)) (k : mm_V K d y cc nL rt (pc + 1) L (.int (x ||| z) :: st) h kc ks Q) : mm_V K d y cc nL rt (pc) L (.int z :: .int x :: st) h kc ks Q := by
  intro p e R s m args below meth c H locs ls cells slots mc ms X g1 g2 g3 g4 hR hS hl
  exact lv_ior X.1 X.2.1 hd (k p e R s m args below meth c H locs ls cells slots mc ms X g1 g2 g3 g4 hR hS hl)
theorem mm_ixor {x z : Int32} (hd : decode cc pc = .ok (.ixor, 1)) (k : mm_V K d y cc nL rt (pc + 1) L (.int (x ^^^ z) :: st) h kc ks Q) : mm_V K d y cc nL rt (pc) L (.int z :: .int x :: st) h kc ks Q := by
  intro p e R s m args below meth c H locs ls cells slots mc ms X g1 g2 g3 g4 hR hS hl
  exact lv_ixor X.1 X.2.1 hd (k p e R s m args below meth c H locs ls cells slots mc ms X g1 g2 g3 g4 hR hS hl)
theorem mm_ishl {x z : Int32} (hd : decode cc pc = .ok (.ishl, 1)) (k : mm_V K d y cc nL rt (pc + 1) L (.int (x <<< (z &&& 31)) :: st) h kc ks Q) : mm_V K d y cc nL rt (pc) L (.int z :: .int x :: st) h kc ks Q := by
  intro p e R s m args below meth c H locs ls cells slots mc ms X g1 g2 g3 g4 hR hS hl
  exact lv_ishl X.1 X.2.1 hd (k p e R s m args below meth c H locs ls cells slots mc ms X g1 g2 g3 g4 hR hS hl)
theorem mm_ishr {x z : Int32} (hd : decode cc pc = .ok (.ishr, 1)) (k : mm_V K d y cc nL rt (pc + 1) L (.int (x >>> (z &&& 31)) :: st) h kc ks Q) : mm_V K d y cc nL rt (pc) L (.int z :: .int x :: st) h kc ks Q := by
  intro p e R s m args below meth c H locs ls cells slots mc ms X g1 g2 g3 g4 hR hS hl
  exact lv_ishr X.1 X.2.1 hd (k p e R s m args below meth c H locs ls cells slots mc ms X g1 g2 g3 g4 hR hS hl)
theorem mm_ladd {x z : Int64} (hd : decode cc pc = .ok (.ladd, 1)) (k : mm_V K d y cc nL rt (pc + 1) L (.long (x + z) :: st) h kc ks Q) : mm_V K d y cc nL rt (pc) L (.long z :: .long x :: st) h kc ks Q := by
  intro p e R s m args below meth c H locs ls cells slots mc ms X g1 g2 g3 g4 hR hS hl
  exact lv_ladd X.1 X.2.1 hd (k p e R s m args below meth c H locs ls cells slots mc ms X g1 g2 g3 g4 hR hS hl)
theorem mm_lsub {x z : Int64} (hd : decode cc pc = .ok (.lsub, 1)) (k : mm_V K d y cc nL rt (pc + 1) L (.long (x - z) :: st) h kc ks Q) : mm_V K d y cc nL rt (pc) L (.long z :: .long x :: st) h kc ks Q := by
  intro p e R s m args below meth c H locs ls cells slots mc ms X g1 g2 g3 g4 hR hS hl
  exact lv_lsub X.1 X.2.1 hd (k p e R s m args below meth c H locs ls cells slots mc ms X g1 g2 g3 g4 hR hS hl)
theorem mm_lmul {x z : Int64} (hd : decode cc pc = .ok (.lmul, 1)) (k : mm_V K d y cc nL rt (pc + 1) L (.long (x * z) :: st) h kc ks Q) : mm_V K d y cc nL rt (pc) L (.long z :: .long x :: st) h kc ks Q := by
  intro p e R s m args below meth c H locs ls cells slots mc ms X g1 g2 g3 g4 hR hS hl
  exact lv_lmul X.1 X.2.1 hd (k p e R s m args below meth c H locs ls cells slots mc ms X g1 g2 g3 g4 hR hS hl)
theorem mm_land {x z : Int64} (hd : decode cc pc = .ok (.land, 1)) (k : mm_V K d y cc nL rt (pc + 1) L (.long (x &&& z) :: st) h kc ks Q) : mm_V K d y cc nL rt (pc) L (.long z :: .long x :: st) h kc ks Q := by
  intro p e R s m args below meth c H locs ls cells slots mc ms X g1 g2 g3 g4 hR hS hl
  exact lv_land X.1 X.2.1 hd (k p e R s m args below meth c H locs ls cells slots mc ms X g1 g2 g3 g4 hR hS hl)
theorem mm_lor {x z : Int64} (hd : decode cc pc = .ok (.lor, 1)) (k : mm_V K d y cc nL rt (pc + 1) L (.long (x ||| z) :: st) h kc ks Q) : mm_V K d y cc nL rt (pc) L (.long z :: .long x :: st) h kc ks Q := by
  intro p e R s m args below meth c H locs ls cells slots mc ms X g1 g2 g3 g4 hR hS hl
  exact lv_lor X.1 X.2.1 hd (k p e R s m args below meth c H locs ls cells slots mc ms X g1 g2 g3 g4 hR hS hl)
theorem mm_lxor {x z : Int64} (hd : decode cc pc = .ok (.lxor, 1)) (k : mm_V K d y cc nL rt (pc + 1) L (.long (x ^^^ z) :: st) h kc ks Q) : mm_V K d y cc nL rt (pc) L (.long z :: .long x :: st) h kc ks Q := by
  intro p e R s m args below meth c H locs ls cells slots mc ms X g1 g2 g3 g4 hR hS hl
  exact lv_lxor X.1 X.2.1 hd (k p e R s m args below meth c H locs ls cells slots mc ms X g1 g2 g3 g4 hR hS hl)
theorem mm_idiv {x z : Int32} (hd : decode cc pc = .ok (.idiv, 1)) (hne : ¬ z = 0) (k : mm_V K d y cc nL rt (pc + 1) L (.int (x / z) :: st) h kc ks Q) : mm_V K d y cc nL rt (pc) L (.int z :: .int x :: st) h kc ks Q := by
  intro p e R s m args below meth c H locs ls cells slots mc ms X g1 g2 g3 g4 hR hS hl
  exact lv_idiv X.1 X.2.1 hd hne (k p e R s m args below meth c H locs ls cells slots mc ms X g1 g2 g3 g4 hR hS hl)
theorem mm_irem {x z : Int32} (hd : decode cc pc = .ok (.irem, 1)) (hne : ¬ z = 0) (k : mm_V K d y cc nL rt (pc + 1) L (.int (x - x / z * z) :: st) h kc ks Q) : mm_V K d y cc nL rt (pc) L (.int z :: .int x :: st) h kc ks Q := by
  intro p e R s m args below meth c H locs ls cells slots mc ms X g1 g2 g3 g4 hR hS hl
  exact lv_irem X.1 X.2.1 hd hne (k p e R s m args below meth c H locs ls cells slots mc ms X g1 g2 g3 g4 hR hS hl)
theorem mm_ldiv {x z : Int64} (hd : decode cc pc = .ok (.ldiv, 1)) (hne : ¬ z = 0) (k : mm_V K d y cc nL rt (pc + 1) L (.long (x / z) :: st) h kc ks Q) : mm_V K d y cc nL rt (pc) L (.long z :: .long x :: st) h kc ks Q := by
  intro p e R s m args below meth c H locs ls cells slots mc ms X g1 g2 g3 g4 hR hS hl
  exact lv_ldiv X.1 X.2.1 hd hne (k p e R s m args below meth c H locs ls cells slots mc ms X g1 g2 g3 g4 hR hS hl)
theorem mm_lrem {x z : Int64} (hd : decode cc pc = .ok (.lrem, 1)) (hne : ¬ z = 0) (k : mm_V K d y cc nL rt (pc + 1) L (.long (x - x / z * z) :: st) h kc ks Q) : mm_V K d y cc nL rt (pc) L (.long z :: .long x :: st) h kc ks Q := by
  intro p e R s m args below meth c H locs ls cells slots mc ms X g1 g2 g3 g4 hR hS hl
  exact lv_lrem X.1 X.2.1 hd hne (k p e R s m args below meth c H locs ls cells slots mc ms X g1 g2 g3 g4 hR hS hl)
theorem mm_ineg {x : Int32} (hd : decode cc pc = .ok (.ineg, 1)) (k : mm_V K d y cc nL rt (pc + 1) L (.int (-x) :: st) h kc ks Q) : mm_V K d y cc nL rt (pc) L (.int x :: st) h kc ks Q := by
  intro p e R s m args below meth c H locs ls cells slots mc ms X g1 g2 g3 g4 hR hS hl
  exact lv_ineg X.1 X.2.1 hd (k p e R s m args below meth c H locs ls cells slots mc ms X g1 g2 g3 g4 hR hS hl)
theorem mm_lneg {x : Int64} (hd : decode cc pc = .ok (.lneg, 1)) (k : mm_V K d y cc nL rt (pc + 1) L (.long (-x) :: st) h kc ks Q) : mm_V K d y cc nL rt (pc) L (.long x :: st) h kc ks Q := by
  intro p e R s m args below meth c H locs ls cells slots mc ms X g1 g2 g3 g4 hR hS hl
  exact lv_lneg X.1 X.2.1 hd (k p e R s m args below meth c H locs ls cells slots mc ms X g1 g2 g3 g4 hR hS hl)
theorem mm_i2l {x : Int32} (hd : decode cc pc = .ok (.i2l, 1)) (k : mm_V K d y cc nL rt (pc + 1) L (.long (x.toInt64) :: st) h kc ks Q) : mm_V K d y cc nL rt (pc) L (.int x :: st) h kc ks Q := by
  intro p e R s m args below meth c H locs ls cells slots mc ms X g1 g2 g3 g4 hR hS hl
  exact lv_i2l X.1 X.2.1 hd rfl (k p e R s m args below meth c H locs ls cells slots mc ms X g1 g2 g3 g4 hR hS hl)
theorem mm_l2i {x : Int64} (hd : decode cc pc = .ok (.l2i, 1)) (k : mm_V K d y cc nL rt (pc + 1) L (.int (x.toInt32) :: st) h kc ks Q) : mm_V K d y cc nL rt (pc) L (.long x :: st) h kc ks Q := by
  intro p e R s m args below meth c H locs ls cells slots mc ms X g1 g2 g3 g4 hR hS hl
  exact lv_l2i X.1 X.2.1 hd rfl (k p e R s m args below meth c H locs ls cells slots mc ms X g1 g2 g3 g4 hR hS hl)
theorem mm_i2b {x : Int32} (hd : decode cc pc = .ok (.i2b, 1)) (k : mm_V K d y cc nL rt (pc + 1) L (.int (x.toInt8.toInt32) :: st) h kc ks Q) : mm_V K d y cc nL rt (pc) L (.int x :: st) h kc ks Q := by
  intro p e R s m args below meth c H locs ls cells slots mc ms X g1 g2 g3 g4 hR hS hl
  exact lv_i2b X.1 X.2.1 hd rfl (k p e R s m args below meth c H locs ls cells slots mc ms X g1 g2 g3 g4 hR hS hl)
theorem mm_i2s {x : Int32} (hd : decode cc pc = .ok (.i2s, 1)) (k : mm_V K d y cc nL rt (pc + 1) L (.int (x.toInt16.toInt32) :: st) h kc ks Q) : mm_V K d y cc nL rt (pc) L (.int x :: st) h kc ks Q := by
  intro p e R s m args below meth c H locs ls cells slots mc ms X g1 g2 g3 g4 hR hS hl
  exact lv_i2s X.1 X.2.1 hd rfl (k p e R s m args below meth c H locs ls cells slots mc ms X g1 g2 g3 g4 hR hS hl)
theorem mm_iushr {x z : Int32} (hd : decode cc pc = .ok (.iushr, 1)) (k : mm_V K d y cc nL rt (pc + 1) L (.int (x.toUInt32 >>> (z.toUInt32 &&& Int32.toUInt32 31)).toInt32 :: st) h kc ks Q) : mm_V K d y cc nL rt (pc) L (.int z :: .int x :: st) h kc ks Q := by
  intro p e R s m args below meth c H locs ls cells slots mc ms X g1 g2 g3 g4 hR hS hl
  exact lv_iushr X.1 X.2.1 hd rfl (k p e R s m args below meth c H locs ls cells slots mc ms X g1 g2 g3 g4 hR hS hl)
theorem mm_lshl {x : Int64} {z : Int32} (hd : decode cc pc = .ok (.lshl, 1)) (k : mm_V K d y cc nL rt (pc + 1) L (.long (x <<< (z.toInt64 &&& 63)) :: st) h kc ks Q) : mm_V K d y cc nL rt (pc) L (.int z :: .long x :: st) h kc ks Q := by
  intro p e R s m args below meth c H locs ls cells slots mc ms X g1 g2 g3 g4 hR hS hl
  exact lv_lshl X.1 X.2.1 hd rfl (k p e R s m args below meth c H locs ls cells slots mc ms X g1 g2 g3 g4 hR hS hl)
theorem mm_lshr {x : Int64} {z : Int32} (hd : decode cc pc = .ok (.lshr, 1)) (k : mm_V K d y cc nL rt (pc + 1) L (.long (x >>> (z.toInt64 &&& 63)) :: st) h kc ks Q) : mm_V K d y cc nL rt (pc) L (.int z :: .long x :: st) h kc ks Q := by
  intro p e R s m args below meth c H locs ls cells slots mc ms X g1 g2 g3 g4 hR hS hl
  exact lv_lshr X.1 X.2.1 hd rfl (k p e R s m args below meth c H locs ls cells slots mc ms X g1 g2 g3 g4 hR hS hl)
theorem mm_lcmp {x z : Int64} (hd : decode cc pc = .ok (.lcmp, 1)) (k : mm_V K d y cc nL rt (pc + 1) L (.int (lg_cmp x z) :: st) h kc ks Q) : mm_V K d y cc nL rt (pc) L (.long z :: .long x :: st) h kc ks Q := by
  intro p e R s m args below meth c H locs ls cells slots mc ms X g1 g2 g3 g4 hR hS hl
  exact W.lcmp X.1 X.2.1 hd (k p e R s m args below meth c H locs ls cells slots mc ms X g1 g2 g3 g4 hR hS hl)
theorem mm_dup {v : Value} (hd : decode cc pc = .ok (.dup, 1)) (hv : v.category = 1) (k : mm_V K d y cc nL rt (pc + 1) L (v :: v :: st) h kc ks Q) : mm_V K d y cc nL rt (pc) L (v :: st) h kc ks Q := by
  intro p e R s m args below meth c H locs ls cells slots mc ms X g1 g2 g3 g4 hR hS hl
  exact lv_dup X.1 X.2.1 hd ((mm_cat _ v).trans hv) (k p e R s m args below meth c H locs ls cells slots mc ms X g1 g2 g3 g4 hR hS hl)
theorem mm_pop {v : Value} (hd : decode cc pc = .ok (.pop, 1)) (hv : v.category = 1) (k : mm_V K d y cc nL rt (pc + 1) L (st) h kc ks Q) : mm_V K d y cc nL rt (pc) L (v :: st) h kc ks Q := by
  intro p e R s m args below meth c H locs ls cells slots mc ms X g1 g2 g3 g4 hR hS hl
  exact lv_pop X.1 X.2.1 hd ((mm_cat _ v).trans hv) (k p e R s m args below meth c H locs ls cells slots mc ms X g1 g2 g3 g4 hR hS hl)
theorem mm_dup_x1 {v u : Value} (hd : decode cc pc = .ok (.dup_x1, 1)) (hv : v.category = 1) (hu : u.category = 1) (k : mm_V K d y cc nL rt (pc + 1) L (v :: u :: v :: st) h kc ks Q) : mm_V K d y cc nL rt (pc) L (v :: u :: st) h kc ks Q := by
  intro p e R s m args below meth c H locs ls cells slots mc ms X g1 g2 g3 g4 hR hS hl
  exact lv_dup_x1 X.1 X.2.1 hd ((mm_cat _ v).trans hv) ((mm_cat _ u).trans hu) (k p e R s m args below meth c H locs ls cells slots mc ms X g1 g2 g3 g4 hR hS hl)
theorem mm_dup2 {v u : Value} (hd : decode cc pc = .ok (.dup2, 1)) (hv : v.category = 1) (hu : u.category = 1) (k : mm_V K d y cc nL rt (pc + 1) L (v :: u :: v :: u :: st) h kc ks Q) : mm_V K d y cc nL rt (pc) L (v :: u :: st) h kc ks Q := by
  intro p e R s m args below meth c H locs ls cells slots mc ms X g1 g2 g3 g4 hR hS hl
  exact lv_dup2_11 X.1 X.2.1 hd ((mm_cat _ v).trans hv) ((mm_cat _ u).trans hu) (k p e R s m args below meth c H locs ls cells slots mc ms X g1 g2 g3 g4 hR hS hl)
theorem mm_goto {off : Int} {tgt : Nat} (hd : decode cc pc = .ok (.goto off, 3)) (ht : (pc : Int) + off = (tgt : Int)) (k : mm_V K d y cc nL rt (tgt) L (st) h kc ks Q) : mm_V K d y cc nL rt (pc) L (st) h kc ks Q := by
  intro p e R s m args below meth c H locs ls cells slots mc ms X g1 g2 g3 g4 hR hS hl
  exact lv_goto X.1 X.2.1 hd ht (k p e R s m args below meth c H locs ls cells slots mc ms X g1 g2 g3 g4 hR hS hl)
theorem mm_icmp_eq {x z : Int32} {off : Int} {tgt : Nat} (hd : decode cc pc = .ok (.if_icmp .eq off, 3)) (ht : (pc : Int) + off = (tgt : Int)) (kt : x = z → mm_V K d y cc nL rt (tgt) L (st) h kc ks Q) (kf : ¬ (x = z) → mm_V K d y cc nL rt (pc + 3) L (st) h kc ks Q) : mm_V K d y cc nL rt (pc) L (.int z :: .int x :: st) h kc ks Q := by
  intro p e R s m args below meth c H locs ls cells slots mc ms X g1 g2 g3 g4 hR hS hl
  exact lv_icmp_eq X.1 X.2.1 hd ht (fun q => kt q p e R s m args below meth c H locs ls cells slots mc ms X g1 g2 g3 g4 hR hS hl) (fun q => kf q p e R s m args below meth c H locs ls cells slots mc ms X g1 g2 g3 g4 hR hS hl)
theorem mm_if_eq {x : Int32} {off : Int} {tgt : Nat} (hd : decode cc pc = .ok (.ifCond .eq off, 3)) (ht : (pc : Int) + off = (tgt : Int)) (kt : x = 0 → mm_V K d y cc nL rt (tgt) L (st) h kc ks Q) (kf : ¬ (x = 0) → mm_V K d y cc nL rt (pc + 3) L (st) h kc ks Q) : mm_V K d y cc nL rt (pc) L (.int x :: st) h kc ks Q := by
  intro p e R s m args below meth c H locs ls cells slots mc ms X g1 g2 g3 g4 hR hS hl
  exact lv_if_eq X.1 X.2.1 hd ht (fun q => kt q p e R s m args below meth c H locs ls cells slots mc ms X g1 g2 g3 g4 hR hS hl) (fun q => kf q p e R s m args below meth c H locs ls cells slots mc ms X g1 g2 g3 g4 hR hS hl)
theorem mm_icmp_ne {x z : Int32} {off : Int} {tgt : Nat} (hd : decode cc pc = .ok (.if_icmp .ne off, 3)) (ht : (pc : Int) + off = (tgt : Int)) (kt : ¬ x = z → mm_V K d y cc nL rt (tgt) L (st) h kc ks Q) (kf : x = z → mm_V K d y cc nL rt (pc + 3) L (st) h kc ks Q) : mm_V K d y cc nL rt (pc) L (.int z :: .int x :: st) h kc ks Q := by
  intro p e R s m args below meth c H locs ls cells slots mc ms X g1 g2 g3 g4 hR hS hl
  exact lv_icmp_ne X.1 X.2.1 hd ht (fun q => kt q p e R s m args below meth c H locs ls cells slots mc ms X g1 g2 g3 g4 hR hS hl) (fun q => kf q p e R s m args below meth c H locs ls cells slots mc ms X g1 g2 g3 g4 hR hS hl)
theorem mm_if_ne {x : Int32} {off : Int} {tgt : Nat} (hd : decode cc pc = .ok (.ifCond .ne off, 3)) (ht : (pc : Int) + off = (tgt : Int)) (kt : ¬ x = 0 → mm_V K d y cc nL rt (tgt) L (st) h kc ks Q) (kf : x = 0 → mm_V K d y cc nL rt (pc + 3) L (st) h kc ks Q) : mm_V K d y cc nL rt (pc) L (.int x :: st) h kc ks Q := by
  intro p e R s m args below meth c H locs ls cells slots mc ms X g1 g2 g3 g4 hR hS hl
  exact lv_if_ne X.1 X.2.1 hd ht (fun q => kt q p e R s m args below meth c H locs ls cells slots mc ms X g1 g2 g3 g4 hR hS hl) (fun q => kf q p e R s m args below meth c H locs ls cells slots mc ms X g1 g2 g3 g4 hR hS hl)
theorem mm_icmp_lt {x z : Int32} {off : Int} {tgt : Nat} (hd : decode cc pc = .ok (.if_icmp .lt off, 3)) (ht : (pc : Int) + off = (tgt : Int)) (kt : x < z → mm_V K d y cc nL rt (tgt) L (st) h kc ks Q) (kf : ¬ (x < z) → mm_V K d y cc nL rt (pc + 3) L (st) h kc ks Q) : mm_V K d y cc nL rt (pc) L (.int z :: .int x :: st) h kc ks Q := by
  intro p e R s m args below meth c H locs ls cells slots mc ms X g1 g2 g3 g4 hR hS hl
  exact lv_icmp_lt X.1 X.2.1 hd ht (fun q => kt q p e R s m args below meth c H locs ls cells slots mc ms X g1 g2 g3 g4 hR hS hl) (fun q => kf q p e R s m args below meth c H locs ls cells slots mc ms X g1 g2 g3 g4 hR hS hl)
theorem mm_if_lt {x : Int32} {off : Int} {tgt : Nat} (hd : decode cc pc = .ok (.ifCond .lt off, 3)) (ht : (pc : Int) + off = (tgt : Int)) (kt : x < 0 → mm_V K d y cc nL rt (tgt) L (st) h kc ks Q) (kf : ¬ (x < 0) → mm_V K d y cc nL rt (pc + 3) L (st) h kc ks Q) : mm_V K d y cc nL rt (pc) L (.int x :: st) h kc ks Q := by
  intro p e R s m args below meth c H locs ls cells slots mc ms X g1 g2 g3 g4 hR hS hl
  exact lv_if_lt X.1 X.2.1 hd ht (fun q => kt q p e R s m args below meth c H locs ls cells slots mc ms X g1 g2 g3 g4 hR hS hl) (fun q => kf q p e R s m args below meth c H locs ls cells slots mc ms X g1 g2 g3 g4 hR hS hl)
theorem mm_icmp_ge {x z : Int32} {off : Int} {tgt : Nat} (hd : decode cc pc = .ok (.if_icmp .ge off, 3)) (ht : (pc : Int) + off = (tgt : Int)) (kt : z ≤ x → mm_V K d y cc nL rt (tgt) L (st) h kc ks Q) (kf : ¬ (z ≤ x) → mm_V K d y cc nL rt (pc + 3) L (st) h kc ks Q) : mm_V K d y cc nL rt (pc) L (.int z :: .int x :: st) h kc ks Q := by
  intro p e R s m args below meth c H locs ls cells slots mc ms X g1 g2 g3 g4 hR hS hl
  exact lv_icmp_ge X.1 X.2.1 hd ht (fun q => kt q p e R s m args below meth c H locs ls cells slots mc ms X g1 g2 g3 g4 hR hS hl) (fun q => kf q p e R s m args below meth c H locs ls cells slots mc ms X g1 g2 g3 g4 hR hS hl)
theorem mm_if_ge {x : Int32} {off : Int} {tgt : Nat} (hd : decode cc pc = .ok (.ifCond .ge off, 3)) (ht : (pc : Int) + off = (tgt : Int)) (kt : 0 ≤ x → mm_V K d y cc nL rt (tgt) L (st) h kc ks Q) (kf : ¬ (0 ≤ x) → mm_V K d y cc nL rt (pc + 3) L (st) h kc ks Q) : mm_V K d y cc nL rt (pc) L (.int x :: st) h kc ks Q := by
  intro p e R s m args below meth c H locs ls cells slots mc ms X g1 g2 g3 g4 hR hS hl
  exact lv_if_ge X.1 X.2.1 hd ht (fun q => kt q p e R s m args below meth c H locs ls cells slots mc ms X g1 g2 g3 g4 hR hS hl) (fun q => kf q p e R s m args below meth c H locs ls cells slots mc ms X g1 g2 g3 g4 hR hS hl)
theorem mm_icmp_gt {x z : Int32} {off : Int} {tgt : Nat} (hd : decode cc pc = .ok (.if_icmp .gt off, 3)) (ht : (pc : Int) + off = (tgt : Int)) (kt : z < x → mm_V K d y cc nL rt (tgt) L (st) h kc ks Q) (kf : ¬ (z < x) → mm_V K d y cc nL rt (pc + 3) L (st) h kc ks Q) : mm_V K d y cc nL rt (pc) L (.int z :: .int x :: st) h kc ks Q := by
  intro p e R s m args below meth c H locs ls cells slots mc ms X g1 g2 g3 g4 hR hS hl
  exact lv_icmp_gt X.1 X.2.1 hd ht (fun q => kt q p e R s m args below meth c H locs ls cells slots mc ms X g1 g2 g3 g4 hR hS hl) (fun q => kf q p e R s m args below meth c H locs ls cells slots mc ms X g1 g2 g3 g4 hR hS hl)
theorem mm_if_gt {x : Int32} {off : Int} {tgt : Nat} (hd : decode cc pc = .ok (.ifCond .gt off, 3)) (ht : (pc : Int) + off = (tgt : Int)) (kt : 0 < x → mm_V K d y cc nL rt (tgt) L (st) h kc ks Q) (kf : ¬ (0 < x) → mm_V K d y cc nL rt (pc + 3) L (st) h kc ks Q) : mm_V K d y cc nL rt (pc) L (.int x :: st) h kc ks Q := by
  intro p e R s m args below meth c H locs ls cells slots mc ms X g1 g2 g3 g4 hR hS hl
  exact lv_if_gt X.1 X.2.1 hd ht (fun q => kt q p e R s m args below meth c H locs ls cells slots mc ms X g1 g2 g3 g4 hR hS hl) (fun q => kf q p e R s m args below meth c H locs ls cells slots mc ms X g1 g2 g3 g4 hR hS hl)
theorem mm_icmp_le {x z : Int32} {off : Int} {tgt : Nat} (hd : decode cc pc = .ok (.if_icmp .le off, 3)) (ht : (pc : Int) + off = (tgt : Int)) (kt : x ≤ z → mm_V K d y cc nL rt (tgt) L (st) h kc ks Q) (kf : ¬ (x ≤ z) → mm_V K d y cc nL rt (pc + 3) L (st) h kc ks Q) : mm_V K d y cc nL rt (pc) L (.int z :: .int x :: st) h kc ks Q := by
  intro p e R s m args below meth c H locs ls cells slots mc ms X g1 g2 g3 g4 hR hS hl
  exact lv_icmp_le X.1 X.2.1 hd ht (fun q => kt q p e R s m args below meth c H locs ls cells slots mc ms X g1 g2 g3 g4 hR hS hl) (fun q => kf q p e R s m args below meth c H locs ls cells slots mc ms X g1 g2 g3 g4 hR hS hl)
theorem mm_if_le {x : Int32} {off : Int} {tgt : Nat} (hd : decode cc pc = .ok (.ifCond .le off, 3)) (ht : (pc : Int) + off = (tgt : Int)) (kt : x ≤ 0 → mm_V K d y cc nL rt (tgt) L (st) h kc ks Q) (kf : ¬ (x ≤ 0) → mm_V K d y cc nL rt (pc + 3) L (st) h kc ks Q) : mm_V K d y cc nL rt (pc) L (.int x :: st) h kc ks Q := by
  intro p e R s m args below meth c H locs ls cells slots mc ms X g1 g2 g3 g4 hR hS hl
  exact lv_if_le X.1 X.2.1 hd ht (fun q => kt q p e R s m args below meth c H locs ls cells slots mc ms X g1 g2 g3 g4 hR hS hl) (fun q => kf q p e R s m args below meth c H locs ls cells slots mc ms X g1 g2 g3 g4 hR hS hl)
theorem mm_tableIn {dflt lo hi : Int} {offs : Array Int} {len : Nat} {x : Int32} {off : Int} {tgt : Nat} (hd : decode cc pc = .ok (.tableswitch dflt lo hi offs, len)) (h1 : ¬ x.toInt < lo) (h2 : ¬ hi < x.toInt) (ho : offs[(x.toInt - lo).toNat]? = some off) (ht : (pc : Int) + off = (tgt : Int)) (k : mm_V K d y cc nL rt (tgt) L (st) h kc ks Q) : mm_V K d y cc nL rt (pc) L (.int x :: st) h kc ks Q := by
  intro p e R s m args below meth c H locs ls cells slots mc ms X g1 g2 g3 g4 hR hS hl
  exact lv_tableIn X.1 X.2.1 hd h1 h2 ho ht (k p e R s m args below meth c H locs ls cells slots mc ms X g1 g2 g3 g4 hR hS hl)
theorem mm_tableOut {dflt lo hi : Int} {offs : Array Int} {len : Nat} {x : Int32} {tgt : Nat} (hd : decode cc pc = .ok (.tableswitch dflt lo hi offs, len)) (h1 : x.toInt < lo ∨ hi < x.toInt) (ht : (pc : Int) + dflt = (tgt : Int)) (k : mm_V K d y cc nL rt (tgt) L (st) h kc ks Q) : mm_V K d y cc nL rt (pc) L (.int x :: st) h kc ks Q := by
  intro p e R s m args below meth c H locs ls cells slots mc ms X g1 g2 g3 g4 hR hS hl
  exact lv_tableOut X.1 X.2.1 hd h1 ht (k p e R s m args below meth c H locs ls cells slots mc ms X g1 g2 g3 g4 hR hS hl)
theorem mm_ifnull {a : Nat} {off : Int} (hd : decode cc pc = .ok (.ifnull off, 3)) (k : mm_V K d y cc nL rt (pc + 3) L (st) h kc ks Q) : mm_V K d y cc nL rt (pc) L (.ref a :: st) h kc ks Q := by
  intro p e R s m args below meth c H locs ls cells slots mc ms X g1 g2 g3 g4 hR hS hl
  exact lv_ifnull X.1 X.2.1 hd (k p e R s m args below meth c H locs ls cells slots mc ms X g1 g2 g3 g4 hR hS hl)
theorem mm_ifnullN {off : Int} {tgt : Nat} (hd : decode cc pc = .ok (.ifnull off, 3)) (ht : (pc : Int) + off = (tgt : Int)) (k : mm_V K d y cc nL rt (tgt) L (st) h kc ks Q) : mm_V K d y cc nL rt (pc) L (.null :: st) h kc ks Q := by
  intro p e R s m args below meth c H locs ls cells slots mc ms X g1 g2 g3 g4 hR hS hl
  exact lv_ifnullN X.1 X.2.1 hd ht (k p e R s m args below meth c H locs ls cells slots mc ms X g1 g2 g3 g4 hR hS hl)
theorem mm_ifnonnull {a : Nat} {off : Int} {tgt : Nat} (hd : decode cc pc = .ok (.ifnonnull off, 3)) (ht : (pc : Int) + off = (tgt : Int)) (k : mm_V K d y cc nL rt (tgt) L (st) h kc ks Q) : mm_V K d y cc nL rt (pc) L (.ref a :: st) h kc ks Q := by
  intro p e R s m args below meth c H locs ls cells slots mc ms X g1 g2 g3 g4 hR hS hl
  exact lv_ifnonnull X.1 X.2.1 hd ht (k p e R s m args below meth c H locs ls cells slots mc ms X g1 g2 g3 g4 hR hS hl)
theorem mm_ifnonnullN {off : Int} (hd : decode cc pc = .ok (.ifnonnull off, 3)) (k : mm_V K d y cc nL rt (pc + 3) L (st) h kc ks Q) : mm_V K d y cc nL rt (pc) L (.null :: st) h kc ks Q := by
  intro p e R s m args below meth c H locs ls cells slots mc ms X g1 g2 g3 g4 hR hS hl
  exact lv_ifnonnullN X.1 X.2.1 hd (k p e R s m args below meth c H locs ls cells slots mc ms X g1 g2 g3 g4 hR hS hl)
theorem mm_iret {v : Int32} (hd : decode cc pc = .ok (.ireturn, 1)) (hr : rt = some .int) (hq : Q (some (.int v)) h) : mm_V K d y cc nL rt (pc) L ([.int v]) h kc ks Q := by
  intro p e R s m args below meth c H locs ls cells slots mc ms X g1 g2 g3 g4 hR hS hl
  refine W.widen (k := mc) (n := ms) (by omega) (by omega) ?_
  exact W.iret (v := v) X.1 X.2.1 (X.2.2.2.1.trans hr) (fun t ht hW => ⟨⟨some (.int v), h, rfl, hq, by rw [ht]; exact hR⟩, hS.F ht⟩) hS.2.2 hd X.2.2.2.2.1
theorem mm_zret {v : Int32} {ty : FieldType} (hd : decode cc pc = .ok (.ireturn, 1)) (hr : rt = some ty) (hn : narrow ty (.int v) = .int v) (hq : Q (some (.int v)) h) : mm_V K d y cc nL rt (pc) L ([.int v]) h kc ks Q := by
  intro p e R s m args below meth c H locs ls cells slots mc ms X g1 g2 g3 g4 hR hS hl
  refine W.widen (k := mc) (n := ms) (by omega) (by omega) ?_
  exact W.zret (v := v) X.1 X.2.1 (X.2.2.2.1.trans hr) hn (fun t ht hW => ⟨⟨some (.int v), h, rfl, hq, by rw [ht]; exact hR⟩, hS.F ht⟩) hS.2.2 hd X.2.2.2.2.1
theorem mm_lret {v : Int64} (hd : decode cc pc = .ok (.lreturn, 1)) (hr : rt = some .long) (hq : Q (some (.long v)) h) : mm_V K d y cc nL rt (pc) L ([.long v]) h kc ks Q := by
  intro p e R s m args below meth c H locs ls cells slots mc ms X g1 g2 g3 g4 hR hS hl
  refine W.widen (k := mc) (n := ms) (by omega) (by omega) ?_
  exact W.lret (v := v) X.1 X.2.1 (X.2.2.2.1.trans hr) (fun t ht hW => ⟨⟨some (.long v), h, rfl, hq, by rw [ht]; exact hR⟩, hS.F ht⟩) hS.2.2 hd X.2.2.2.2.1
theorem mm_vret (hd : decode cc pc = .ok (.return_, 1)) (hr : rt = none) (hq : Q none h) : mm_V K d y cc nL rt (pc) L ([]) h kc ks Q := by
  intro p e R s m args below meth c H locs ls cells slots mc ms X g1 g2 g3 g4 hR hS hl
  refine W.widen (k := mc) (n := ms) (by omega) (by omega) ?_
  exact W.vret X.1 X.2.1 (X.2.2.2.1.trans hr) (fun t ht hW => ⟨⟨none, h, rfl, hq, by rw [ht]; exact hR⟩, hS.F ht⟩) hS.2.2 hd X.2.2.2.2.1
theorem mm_aret {a : Nat} {ty : FieldType} (hd : decode cc pc = .ok (.areturn, 1)) (hr : rt = some ty) (hty : (∃ n, ty = .object n) ∨ ∃ t, ty = .array t) (hq : Q (some (.ref a)) h) : mm_V K d y cc nL rt (pc) L ([.ref a]) h kc ks Q := by
  intro p e R s m args below meth c H locs ls cells slots mc ms X g1 g2 g3 g4 hR hS hl
  refine W.widen (k := mc) (n := ms) (by omega) (by omega) ?_
  exact W.aret (v := .ref (K.2.2.2.2.2 + a)) X.1 X.2.1 (X.2.2.2.1.trans hr) hty (Or.inr ⟨_, rfl⟩) (fun t ht hW => ⟨⟨some (.ref a), h, rfl, hq, by rw [ht]; exact hR⟩, hS.F ht⟩) hS.2.2 hd X.2.2.2.2.1
theorem mm_aretN {ty : FieldType} (hd : decode cc pc = .ok (.areturn, 1)) (hr : rt = some ty) (hty : (∃ n, ty = .object n) ∨ ∃ t, ty = .array t) (hq : Q (some .null) h) : mm_V K d y cc nL rt (pc) L ([.null]) h kc ks Q := by
  intro p e R s m args below meth c H locs ls cells slots mc ms X g1 g2 g3 g4 hR hS hl
  refine W.widen (k := mc) (n := ms) (by omega) (by omega) ?_
  exact W.aret (v := .null) X.1 X.2.1 (X.2.2.2.1.trans hr) hty (Or.inl rfl) (fun t ht hW => ⟨⟨some .null, h, rfl, hq, by rw [ht]; exact hR⟩, hS.F ht⟩) hS.2.2 hd X.2.2.2.2.1
end MMR
