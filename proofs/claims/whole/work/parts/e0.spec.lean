/-! heaps that grow: what lies from address a on, as a list -/
def hE (a : Nat) (es : List mm_E) (g : Nat → Option mm_E) : mm_H := (a + es.length, fun q => if q < a then g q else es[q - a]?)
theorem hE_at {a k : Nat} {es : List mm_E} {g : Nat → Option mm_E} : (hE a es g).2 (a + k) = es[k]? := by
  show (if a + k < a then g (a + k) else es[a + k - a]?) = es[k]?
  rw [if_neg (by omega), Nat.add_sub_cancel_left]
theorem hE_new {a : Nat} {es : List mm_E} {g : Nat → Option mm_E} {e : mm_E} : mm_new (hE a es g) e = hE a (es ++ [e]) g := by
  refine Prod.ext ?_ (funext fun q => ?_)
  · show a + es.length + 1 = a + (es ++ [e]).length
    rw [List.length_append]
    rfl
  · show (if q = a + es.length then some e else (if q < a then g q else es[q - a]?)) = (if q < a then g q else (es ++ [e])[q - a]?)
    by_cases h1 : q < a
    · rw [if_neg (by omega), if_pos h1, if_pos h1]
    · rw [if_neg h1, if_neg h1]
      by_cases h2 : q = a + es.length
      · rw [if_pos h2, h2, Nat.add_sub_cancel_left, List.getElem?_append_right (Nat.le_refl _), Nat.sub_self]
        rfl
      · rw [if_neg h2]
        by_cases h3 : q - a < es.length
        · rw [List.getElem?_append_left h3]
        · rw [List.getElem?_eq_none (by omega), List.getElem?_eq_none (by rw [List.length_append]; show es.length + 1 ≤ q - a; omega)]
theorem hE_set {a k : Nat} {es : List mm_E} {g : Nat → Option mm_E} {e : mm_E} (hk : k < es.length) : mm_set (hE a es g) (a + k) e = hE a (es.set k e) g := by
  refine Prod.ext ?_ (funext fun q => ?_)
  · show a + es.length = a + (es.set k e).length
    rw [List.length_set]
  · show (if q = a + k then some e else (if q < a then g q else es[q - a]?)) = (if q < a then g q else (es.set k e)[q - a]?)
    by_cases h1 : q < a
    · rw [if_neg (by omega), if_pos h1, if_pos h1]
    · rw [if_neg h1, if_neg h1]
      by_cases h2 : q = a + k
      · rw [if_pos h2, h2, Nat.add_sub_cancel_left, List.getElem?_set_self hk]
      · rw [if_neg h2, List.getElem?_set_ne (by omega)]
theorem hE_app {a : Nat} {es fs : List mm_E} {g : Nat → Option mm_E} : hE a (es ++ fs) g = hE (a + es.length) fs (hE a es g).2 := by
  refine Prod.ext ?_ (funext fun q => ?_)
  · show a + (es ++ fs).length = a + es.length + fs.length
    rw [List.length_append, Nat.add_assoc]
  · show (if q < a then g q else (es ++ fs)[q - a]?) = (if q < a + es.length then (if q < a then g q else es[q - a]?) else fs[q - (a + es.length)]?)
    by_cases h1 : q < a
    · rw [if_pos h1, if_pos (by omega), if_pos h1]
    · rw [if_neg h1]
      by_cases h2 : q < a + es.length
      · rw [if_pos h2, if_neg h1, List.getElem?_append_left (by omega)]
      · rw [if_neg h2, List.getElem?_append_right (by omega), show q - a - es.length = q - (a + es.length) by omega]
section HEX
variable {K : mm_K} {d : Nat} {y : MethodName} {cc : ByteArray} {nL : Nat} {rt : Option FieldType} {pc : Nat} {L : List (Nat × Value)} {st : List Value} {kc ks : Nat} {Q : Option Value → mm_H → Prop} {a : Nat} {es es1 : List mm_E} {g : Nat → Option mm_E}
theorem he_newo {idx ci N n : Nat} {C : String} {T : u_T} {fs : List Value} (ty : Nat → FieldType) (hd : decode cc pc = .ok (.new idx, 3)) (hcl : K.2.2.1[ci]? = some (C, T, N)) (hin : ∀ w ∈ u_ws C T N, w ∈ K.2.2.2.2.1) (hty : ∀ k, k < N → parseFieldDescriptor (T k).2.2.1 = some (ty k)) (h1 : Cond.classLink y.cls idx C ∈ K.2.2.2.2.1) (h2 : Cond.instantiable C N ∈ K.2.2.2.2.1) (h3 : Cond.initialized C ∈ K.2.2.2.2.1) (hfs : ∀ j, j < N → defaultValue (ty j) = vp_V fs j) (hnr : fs.map (mm_sh K.2.2.2.2.2) = fs) (hn : a + es.length = n) (he : es ++ [.inr (ci, fs)] = es1)
    (k : mm_V K d y cc nL rt (pc + 3) L (.ref n :: st) (hE a es1 g) kc ks Q) : mm_V K d y cc nL rt pc L st (hE a es g) (kc + 1) (ks + N) Q := by
  refine mm_newo ty hd hcl hin hty h1 h2 h3 hfs hnr (Nat.le_add_left _ _) (Nat.le_add_left _ _) ?_
  rw [hE_new, he, Nat.add_sub_cancel, Nat.add_sub_cancel]
  show mm_V K d y cc nL rt (pc + 3) L (.ref (a + es.length) :: st) (hE a es1 g) kc ks Q
  rw [hn]
  exact k
theorem he_newa {t N' n : Nat} {ty : FieldType} {atype : ArrayType} {x : Int32} {a0 : vp_A} (hd : decode cc pc = .ok (.newarray atype, 2)) (ht : mm_T K t ty) (hty : newarray.typeOf atype = ty) (hprim : ∀ cA : ClassId, (∀ U : State, va_RA U cA ty → U.vm.findClass ("[" ++ ty.toString) = some cA)) (h1 : Cond.arrayClass ty ∈ K.2.2.2.2.1) (ha : ∀ cA : ClassId, vp_cell cA (mm_ar K.2.2.2.2.2 a0) = arrV cA N' (fun _ => defaultValue ty)) (hx : ¬ x < 0) (hN : x.toNatClampNeg = N') (hb : N' * componentBytes ty ≤ 536870912) (hn : a + es.length = n) (he : es ++ [.inl (t, a0)] = es1)
    (k : mm_V K d y cc nL rt (pc + 2) L (.ref n :: st) (hE a es1 g) kc ks Q) : mm_V K d y cc nL rt pc L (.int x :: st) (hE a es g) (kc + 1) (ks + N') Q := by
  refine mm_newa hd ht hty hprim h1 ha hx hN hb (Nat.le_add_left _ _) (Nat.le_add_left _ _) ?_
  rw [hE_new, he, Nat.add_sub_cancel, Nat.add_sub_cancel]
  show mm_V K d y cc nL rt (pc + 2) L (.ref (a + es.length) :: st) (hE a es1 g) kc ks Q
  rw [hn]
  exact k
theorem he_anew {t N' idx n : Nat} {C : String} {x : Int32} (hd : decode cc pc = .ok (.anewarray idx, 3)) (ht : mm_T K t (.object C)) (h1 : Cond.classLink y.cls idx C ∈ K.2.2.2.2.1) (h2 : Cond.arrayOver (.object C) ∈ mm_N) (hx : ¬ x < 0) (hN : x.toNatClampNeg = N') (hb : N' * 4 ≤ 536870912) (hn : a + es.length = n) (he : es ++ [.inl (t, N', .inr (.inr (.inr (.inr (fun _ => none)))))] = es1)
    (k : mm_V K d y cc nL rt (pc + 3) L (.ref n :: st) (hE a es1 g) kc ks Q) : mm_V K d y cc nL rt pc L (.int x :: st) (hE a es g) (kc + 1) (ks + N') Q := by
  refine mm_anew hd ht h1 h2 hx hN hb (Nat.le_add_left _ _) (Nat.le_add_left _ _) ?_
  rw [hE_new, he, Nat.add_sub_cancel, Nat.add_sub_cancel]
  show mm_V K d y cc nL rt (pc + 3) L (.ref (a + es.length) :: st) (hE a es1 g) kc ks Q
  rw [hn]
  exact k
/-- a field of the object that is made -/
theorem he_putF {idx ci j N : Nat} {ty : FieldType} {fs fs1 : List Value} {v : Value} (hd : decode cc pc = .ok (.putfield idx, 3)) (hF : mm_F K y.cls idx ci j N ty true) (hy : y.name = "<init>") (hlen : j < fs.length) (hn : narrow ty v = v) (hfit : fits ty v = true) (hfs : fs.set j v = fs1)
    (k : mm_V K d y cc nL rt (pc + 3) L st (hE a (.inr (ci, fs1) :: es) g) kc ks Q) : mm_V K d y cc nL rt pc L (v :: .ref a :: st) (hE a (.inr (ci, fs) :: es) g) kc ks Q := by
  refine mm_putF hd hF hy (by have := hE_at (a := a) (k := 0) (es := .inr (ci, fs) :: es) (g := g); rw [Nat.add_zero] at this; exact this) hlen hn hfit ?_
  have := hE_set (a := a) (k := 0) (es := .inr (ci, fs) :: es) (g := g) (e := .inr (ci, fs.set j v)) (Nat.succ_pos _)
  rw [Nat.add_zero] at this
  rw [this, hfs]
  exact k
theorem he_put {idx ci j N : Nat} {ty : FieldType} {fs fs1 : List Value} {v : Value} (hd : decode cc pc = .ok (.putfield idx, 3)) (hF : mm_F K y.cls idx ci j N ty false) (hlen : j < fs.length) (hn : narrow ty v = v) (hfit : fits ty v = true) (hfs : fs.set j v = fs1)
    (k : mm_V K d y cc nL rt (pc + 3) L st (hE a (.inr (ci, fs1) :: es) g) kc ks Q) : mm_V K d y cc nL rt pc L (v :: .ref a :: st) (hE a (.inr (ci, fs) :: es) g) kc ks Q := by
  refine mm_put hd hF (by have := hE_at (a := a) (k := 0) (es := .inr (ci, fs) :: es) (g := g); rw [Nat.add_zero] at this; exact this) hlen hn hfit ?_
  have := hE_set (a := a) (k := 0) (es := .inr (ci, fs) :: es) (g := g) (e := .inr (ci, fs.set j v)) (Nat.succ_pos _)
  rw [Nat.add_zero] at this
  rw [this, hfs]
  exact k
/-- the constructor of a nest mate -/
theorem he_callN {idx n k1 s1 d2 : Nat} {y2 : MethodName} {cc2 : ByteArray} {nL2 : Nat} {host : String} {e0 : mm_E} {en : List mm_E} (hd : decode cc pc = .ok (.invokespecial idx, 3)) (hG : mm_G K) (hC : mm_CN K y.cls idx y2 cc2 nL2 none 0 (.instanceMethod y2) host) (hy1 : y2.name = "<init>") (hcat : (st.map fun v => v.category).sum ≤ 8) (hlen : 1 ≤ nL2) (hdd : d2 + 1 ≤ d ∧ 19 + nL2 + 39 * d2 ≤ 39 * d) (hn : a + es.length = n) (he : es ++ en = es1)
    (hV : ∀ g' : Nat → Option mm_E, mm_V K d2 y2 cc2 nL2 none 0 [(0, .ref n)] [] (hE n [e0] g') k1 s1 (fun r h' => r = none ∧ h' = hE n en g'))
    (k : mm_V K d y cc nL rt (pc + 3) L st (hE a es1 g) kc ks Q) : mm_V K d y cc nL rt pc L (.ref n :: st) (hE a (es ++ [e0]) g) (kc + k1) (ks + s1) Q := by
  rw [hE_app, hn]
  refine mm_callIN (As := []) (rest := st) (d2 := d2) (n := 0) hd hG hC hy1 rfl rfl hcat hlen hdd (hV _) (Nat.le_add_left _ _) (Nat.le_add_left _ _) (fun r h1 hq => ?_)
  obtain ⟨rfl, rfl⟩ := hq
  rw [← hn, ← hE_app, he, Nat.add_sub_cancel, Nat.add_sub_cancel]
  exact k
/-- an array of references, as far as it goes -/
theorem mm_rfs {h : mm_H} {q t n : Nat} {f f' : Nat → Option Nat} (ha : h.2 q = some (.inl (t, n, .inr (.inr (.inr (.inr f)))))) (hf : ∀ j, j < n → f j = f' j) (k : mm_V K d y cc nL rt pc L st (mm_set h q (.inl (t, n, .inr (.inr (.inr (.inr f')))))) kc ks Q) : mm_V K d y cc nL rt pc L st h kc ks Q := by
  intro p e R s m args below meth c H locs ls cells slots mc ms X g1 g2 g3 g4 hR hS hl
  refine k p e R s m args below meth c H locs ls cells slots mc ms X g1 g2 g3 g4 (hR.set (H1 := H) ?_ rfl (fun _ _ => rfl)) hS hl
  have h1 : H[K.2.2.2.2.2 + q]? = some (vp_cell (mm_cA K.2.2.2.1 t) (n, .inr (.inr (.inr (.inr (fun j => (f j).map (fun q => K.2.2.2.2.2 + q))))))) := hR.2 q _ ha
  show H[K.2.2.2.2.2 + q]? = some (vp_cell (mm_cA K.2.2.2.1 t) (n, .inr (.inr (.inr (.inr (fun j => (f' j).map (fun q => K.2.2.2.2.2 + q)))))))
  rw [h1, vp_cell_q, vp_cell_q]
  unfold arrV
  congr 3
  funext j
  show va_rf (Option.map (fun q => K.2.2.2.2.2 + q) (f j.val)) = va_rf (Option.map (fun q => K.2.2.2.2.2 + q) (f' j.val))
  rw [hf j.val j.isLt]
theorem he_rfs {t n j : Nat} {f f' : Nat → Option Nat} (ha : es[j]? = some (.inl (t, n, .inr (.inr (.inr (.inr f)))))) (hf : ∀ j, j < n → f j = f' j) (he : es.set j (.inl (t, n, .inr (.inr (.inr (.inr f'))))) = es1) (k : mm_V K d y cc nL rt pc L st (hE a es1 g) kc ks Q) : mm_V K d y cc nL rt pc L st (hE a es g) kc ks Q := by
  refine mm_rfs (hE_at.trans ha) hf ?_
  rw [hE_set (List.getElem?_eq_some_iff.mp ha).1, he]
  exact k
theorem hE_ap {n : Nat} {en : List mm_E} {e : mm_E} (hn : a + es.length = n) (h : en[0]? = some e) : (hE a (es ++ en) g).2 n = some e := by
  rw [hE_app, hn]
  have := hE_at (a := n) (k := 0) (es := en) (g := (hE a es g).2)
  rw [Nat.add_zero] at this
  rw [this, h]
/-- an array of references is filled -/
theorem he_aast {t n j v ci q i' : Nat} {r : vw_C} {fs : List Value} {f : Nat → Option Nat} {i : Int32} (hd : decode cc pc = .ok (.aastore, 1)) (ht : mm_T K t (.object r.1)) (ha : es[j]? = some (.inl (t, n, .inr (.inr (.inr (.inr f)))))) (hq : a + j = q) (hv : (hE a es g).2 v = some (.inr (ci, fs))) (hc : K.2.2.1[ci]? = some r) (hin : vp_in i n) (hi : i.toNatClampNeg = i') (he : es.set j (.inl (t, n, .inr (.inr (.inr (.inr (va_up f i' (some v))))))) = es1) (k : mm_V K d y cc nL rt (pc + 1) L st (hE a es1 g) kc ks Q) : mm_V K d y cc nL rt pc L (.ref v :: .int i :: .ref q :: st) (hE a es g) kc ks Q := by
  subst hq
  refine mm_aast hd ht (hE_at.trans ha) hv hc hin ?_
  rw [hE_set (List.getElem?_eq_some_iff.mp ha).1, hi, he]
  exact k
end HEX
