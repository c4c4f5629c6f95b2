/-! the reference: its object and its arrays as functions; o is its address in the small heap -/
def rm_ia (k : Nat) : Bool := [false, true, true, true, true, true, true, true, true, true, true, true, false, false, false, false, true, true, true, true, true, false, false, false, false, false, false, false, false, true, true, true, true, true, false, true, true, true, true, true, false, false, false, true, false, false, true, true, false, true, true, true, false, true].getD k false
def rm_ib (k : Nat) : Bool := [false, false, false, false, false, false, false, false, false, false, false, false, false, false, false, false, false, false, false, false, false, false, false, false, false, false, false, false, false, false, false, false, false, false, false, false, false, false, false, false, false, false, false, false, false, false, true, true, false, false, true, false, false, false].getD k false
def rm_il (k : Nat) : Bool := [false, false, false, false, false, false, false, false, false, false, false, false, false, false, false, false, false, false, false, false, false, false, false, false, false, false, false, false, false, false, false, false, false, false, false, false, false, false, false, false, false, false, false, false, true, true, false, false, false, false, false, false, false, false].getD k false
def rm_tp (k : Nat) : Nat := [0, 0, 0, 0, 0, 0, 0, 0, 0, 2, 0, 0, 0, 0, 0, 0, 0, 0, 2, 0, 0, 0, 0, 0, 0, 0, 0, 0, 0, 0, 0, 0, 0, 0, 0, 0, 0, 0, 0, 0, 0, 0, 0, 2, 0, 0, 1, 1, 0, 0, 1, 0, 0, 0].getD k 0
def rm_ln (k : Nat) : Nat := [0, 6, 6, 6, 6, 6, 144, 144, 144, 144, 144, 144, 0, 0, 0, 0, 24, 24, 24, 8750, 25, 0, 0, 0, 0, 0, 0, 0, 0, 400, 400, 400, 400, 400, 0, 120000, 1001, 1001, 24000, 1001, 0, 0, 0, 25, 0, 0, 24, 24, 0, 6, 720, 6, 0, 3].getD k 0
def rm_ps (k : Nat) : Nat := [0, 1, 2, 3, 4, 5, 6, 7, 8, 9, 10, 11, 0, 0, 0, 0, 12, 13, 14, 15, 16, 0, 0, 0, 0, 0, 0, 0, 0, 17, 18, 19, 20, 21, 0, 22, 23, 24, 25, 26, 0, 0, 0, 27, 0, 0, 28, 29, 0, 30, 31, 32, 0, 33].getD k 0
abbrev rm_ci : Nat := 12
def rm_fv (o : Nat) (F : Nat → Int32) (G : Nat → Int64) (k : Nat) : Value := if rm_ia k = true then .ref (o + rm_ps k) else if rm_il k = true then .long (G k) else .int (F k)
def rm_fs (o : Nat) (F : Nat → Int32) (G : Nat → Int64) : List Value := (List.range 54).map (rm_fv o F G)
def rm_e1 (A : Nat → Nat → Int32) (B : Nat → Nat → Int64) (k : Nat) : mm_E := if rm_ib k = true then .inl (rm_tp k, rm_ln k, .inr (.inl (B k))) else .inl (rm_tp k, rm_ln k, .inl (A k))
def rm_at (o : Nat) (F : Nat → Int32) (G : Nat → Int64) (A : Nat → Nat → Int32) (B : Nat → Nat → Int64) (h : mm_H) : Prop := h.2 o = some (.inr (rm_ci, rm_fs o F G)) ∧ ∀ k : Nat, rm_ia k = true → h.2 (o + rm_ps k) = some (rm_e1 A B k)
def rm_up {α : Type} (A : Nat → α) (k : Nat) (f : α) : Nat → α := fun j => if j = k then f else A j
def rm_fr (o : Nat) (h0 h : mm_H) : Prop := h.1 = h0.1 ∧ ∀ a : Nat, (a < o ∨ o + 34 ≤ a) → h.2 a = h0.2 a
theorem rm_up_s {α : Type} {A : Nat → α} {k : Nat} {f : α} : rm_up A k f k = f := if_pos rfl
theorem rm_up_n {α : Type} {A : Nat → α} {k j : Nat} {f : α} (h : j ≠ k) : rm_up A k f j = A j := if_neg h
theorem rm_fs_at {o : Nat} {F : Nat → Int32} {G : Nat → Int64} {k : Nat} (hk : k < 54) : (rm_fs o F G)[k]? = some (rm_fv o F G k) := by
  unfold rm_fs
  rw [List.getElem?_map, List.getElem?_range hk]
  rfl
theorem rm_fs_len {o : Nat} {F : Nat → Int32} {G : Nat → Int64} : (rm_fs o F G).length = 54 := by unfold rm_fs; rw [List.length_map, List.length_range]
theorem rm_fs_set {o : Nat} {F F' : Nat → Int32} {G G' : Nat → Int64} {k : Nat} {v : Value} (hk : k < 54) (hv : rm_fv o F' G' k = v) (hn : ∀ j : Nat, j ≠ k → rm_fv o F' G' j = rm_fv o F G j) : (rm_fs o F G).set k v = rm_fs o F' G' := by
  apply List.ext_getElem?
  intro j
  by_cases hj : j < 54
  · rw [rm_fs_at hj]
    by_cases hjk : k = j
    · subst hjk
      rw [List.getElem?_set_self (by rw [rm_fs_len]; exact hk), hv]
    · rw [List.getElem?_set_ne hjk, rm_fs_at hj, hn j (fun q => hjk q.symm)]
  · rw [List.getElem?_eq_none (by rw [List.length_set, rm_fs_len]; omega), List.getElem?_eq_none (by rw [rm_fs_len]; omega)]
theorem rm_ia_lt {k : Nat} (h : rm_ia k = true) : k < 54 := by
  by_cases hk : k < 54
  · exact hk
  · unfold rm_ia at h
    rw [List.getD_eq_getElem?_getD, List.getElem?_eq_none (by simp; omega)] at h
    cases h
theorem rm_ps_inj : ∀ k, k < 54 → ∀ j, j < 54 → rm_ia k = true → rm_ia j = true → rm_ps k = rm_ps j → k = j := by decide +kernel
theorem rm_ps_pos : ∀ k, k < 54 → rm_ia k = true → 0 < rm_ps k ∧ rm_ps k < 34 := by decide +kernel
theorem rm_fr.rf {o : Nat} {h : mm_H} : rm_fr o h h := ⟨rfl, fun _ _ => rfl⟩
theorem rm_fr.tr {o : Nat} {h0 h1 h2 : mm_H} (a : rm_fr o h0 h1) (b : rm_fr o h1 h2) : rm_fr o h0 h2 := ⟨b.1.trans a.1, fun q hq => (b.2 q hq).trans (a.2 q hq)⟩
theorem rm_fr.set {o : Nat} {h0 h : mm_H} {p : Nat} {e : mm_E} (hf : rm_fr o h0 h) (hp : p < 34) : rm_fr o h0 (mm_set h (o + p) e) := by
  refine ⟨hf.1, fun a ha => ?_⟩
  unfold mm_set
  dsimp only
  rw [if_neg (by omega)]
  exact hf.2 a ha
theorem rm_setO {o : Nat} {F F' : Nat → Int32} {G G' : Nat → Int64} {A : Nat → Nat → Int32} {B : Nat → Nat → Int64} {h : mm_H} {k : Nat} {v : Value} (ha : rm_at o F G A B h) (hk : k < 54) (hv : rm_fv o F' G' k = v) (hn : ∀ j : Nat, j ≠ k → rm_fv o F' G' j = rm_fv o F G j) : rm_at o F' G' A B (mm_set h o (.inr (rm_ci, (rm_fs o F G).set k v))) := by
  unfold mm_set
  refine ⟨?_, fun j hj => ?_⟩
  · dsimp only
    rw [if_pos rfl, rm_fs_set hk hv hn]
  · dsimp only
    rw [if_neg (by have := rm_ps_pos j (rm_ia_lt hj) hj; omega)]
    exact ha.2 j hj
theorem rm_setE {o : Nat} {F : Nat → Int32} {G : Nat → Int64} {A A' : Nat → Nat → Int32} {B B' : Nat → Nat → Int64} {h : mm_H} {k : Nat} {e : mm_E} (ha : rm_at o F G A B h) (hk : rm_ia k = true) (he : rm_e1 A' B' k = e) (hn : ∀ j : Nat, j ≠ k → rm_e1 A' B' j = rm_e1 A B j) : rm_at o F G A' B' (mm_set h (o + rm_ps k) e) := by
  have hp := rm_ps_pos k (rm_ia_lt hk) hk
  unfold mm_set
  refine ⟨?_, fun j hj => ?_⟩
  · dsimp only
    rw [if_neg (by omega)]
    exact ha.1
  · dsimp only
    by_cases hjk : j = k
    · subst hjk
      rw [if_pos rfl, he]
    · rw [if_neg (fun q => hjk (rm_ps_inj j (rm_ia_lt hj) k (rm_ia_lt hk) hj hk (by omega))), hn j hjk]
      exact ha.2 j hj
section RMR
variable {l : Launch} {D : va_G} {aa : Nat → ClassId} {b0 : Nat} {d : Nat} {y : MethodName} {cc : ByteArray} {nL : Nat} {rt : Option FieldType} {pc : Nat} {L : List (Nat × Value)} {st : List Value} {h h0 : mm_H} {kc ks : Nat} {Q : Option Value → mm_H → Prop} {o : Nat} {F : Nat → Int32} {G : Nat → Int64} {A : Nat → Nat → Int32} {B : Nat → Nat → Int64}
theorem rm_getI {idx : Nat} {ty : FieldType} {fin : Bool} (k : Nat) (hd : decode cc pc = .ok (.getfield idx, 3)) (ha : rm_at o F G A B h) (hF : mm_F (zz_K l D aa b0) y.cls idx rm_ci k 54 ty fin) (hk : k < 54) (h1 : rm_ia k = false) (h2 : rm_il k = false) (kk : mm_V (zz_K l D aa b0) d y cc nL rt (pc + 3) L (.int (F k) :: st) h kc ks Q) : mm_V (zz_K l D aa b0) d y cc nL rt (pc) L (.ref o :: st) h kc ks Q :=
  mm_get hd hF ha.1 (by rw [rm_fs_at hk]; unfold rm_fv; rw [if_neg (by rw [h1]; decide), if_neg (by rw [h2]; decide)]) kk
theorem rm_getL {idx : Nat} {ty : FieldType} {fin : Bool} (k : Nat) (hd : decode cc pc = .ok (.getfield idx, 3)) (ha : rm_at o F G A B h) (hF : mm_F (zz_K l D aa b0) y.cls idx rm_ci k 54 ty fin) (hk : k < 54) (h1 : rm_ia k = false) (h2 : rm_il k = true) (kk : mm_V (zz_K l D aa b0) d y cc nL rt (pc + 3) L (.long (G k) :: st) h kc ks Q) : mm_V (zz_K l D aa b0) d y cc nL rt (pc) L (.ref o :: st) h kc ks Q :=
  mm_get hd hF ha.1 (by rw [rm_fs_at hk]; unfold rm_fv; rw [if_neg (by rw [h1]; decide), if_pos h2]) kk
theorem rm_getA {idx : Nat} {ty : FieldType} {fin : Bool} (k : Nat) (hd : decode cc pc = .ok (.getfield idx, 3)) (ha : rm_at o F G A B h) (hF : mm_F (zz_K l D aa b0) y.cls idx rm_ci k 54 ty fin) (hk : k < 54) (h1 : rm_ia k = true) (kk : mm_V (zz_K l D aa b0) d y cc nL rt (pc + 3) L (.ref (o + rm_ps k) :: st) h kc ks Q) : mm_V (zz_K l D aa b0) d y cc nL rt (pc) L (.ref o :: st) h kc ks Q :=
  mm_get hd hF ha.1 (by rw [rm_fs_at hk]; unfold rm_fv; rw [if_pos h1]) kk
theorem rm_putI {idx : Nat} {ty : FieldType} {x : Int32} (k : Nat) (hd : decode cc pc = .ok (.putfield idx, 3)) (ha : rm_at o F G A B h) (hf : rm_fr o h0 h) (hF : mm_F (zz_K l D aa b0) y.cls idx rm_ci k 54 ty false) (hk : k < 54) (h1 : rm_ia k = false) (h2 : rm_il k = false) (hn : narrow ty (.int x) = .int x) (hfit : fits ty (.int x) = true) (kk : ∀ h : mm_H, rm_at o (upd F k x) G A B h → rm_fr o h0 h → mm_V (zz_K l D aa b0) d y cc nL rt (pc + 3) L (st) h kc ks Q) : mm_V (zz_K l D aa b0) d y cc nL rt (pc) L (.int x :: .ref o :: st) h kc ks Q :=
  mm_put hd hF ha.1 (by rw [rm_fs_len]; exact hk) hn hfit (kk _ (rm_setO ha hk (by unfold rm_fv; rw [if_neg (by rw [h1]; decide), if_neg (by rw [h2]; decide), pk_us]) (fun j hj => by unfold rm_fv; rw [pk_un hj])) (hf.set (p := 0) (by decide)))
theorem rm_putL {idx : Nat} {ty : FieldType} {x : Int64} (k : Nat) (hd : decode cc pc = .ok (.putfield idx, 3)) (ha : rm_at o F G A B h) (hf : rm_fr o h0 h) (hF : mm_F (zz_K l D aa b0) y.cls idx rm_ci k 54 ty false) (hk : k < 54) (h1 : rm_ia k = false) (h2 : rm_il k = true) (hn : narrow ty (.long x) = .long x) (hfit : fits ty (.long x) = true) (kk : ∀ h : mm_H, rm_at o F (vp_updL G k x) A B h → rm_fr o h0 h → mm_V (zz_K l D aa b0) d y cc nL rt (pc + 3) L (st) h kc ks Q) : mm_V (zz_K l D aa b0) d y cc nL rt (pc) L (.long x :: .ref o :: st) h kc ks Q :=
  mm_put hd hF ha.1 (by rw [rm_fs_len]; exact hk) hn hfit (kk _ (rm_setO ha hk (by unfold rm_fv; rw [if_neg (by rw [h1]; decide), if_pos h2, pk_uLs]) (fun j hj => by unfold rm_fv; rw [pk_uLn hj])) (hf.set (p := 0) (by decide)))
theorem rm_arr {k : Nat} (ha : rm_at o F G A B h) (h1 : rm_ia k = true) (h2 : rm_ib k = false) : h.2 (o + rm_ps k) = some (.inl (rm_tp k, rm_ln k, .inl (A k))) := by
  rw [ha.2 k h1]; unfold rm_e1; rw [if_neg (by rw [h2]; decide)]
theorem rm_arrL {k : Nat} (ha : rm_at o F G A B h) (h1 : rm_ia k = true) (h2 : rm_ib k = true) : h.2 (o + rm_ps k) = some (.inl (rm_tp k, rm_ln k, .inr (.inl (B k)))) := by
  rw [ha.2 k h1]; unfold rm_e1; rw [if_pos h2]
theorem rm_ln_lt : ∀ k, k < 54 → rm_ln k < 2 ^ 31 := by decide +kernel
theorem rm_iald {k i : Nat} (hd : decode cc pc = .ok (.iaload, 1)) (ha : rm_at o F G A B h) (h1 : rm_ia k = true) (h2 : rm_ib k = false) (h3 : rm_tp k = 0) (hi : i < rm_ln k) (kk : mm_V (zz_K l D aa b0) d y cc nL rt (pc + 1) L (.int (A k i) :: st) h kc ks Q) : mm_V (zz_K l D aa b0) d y cc nL rt (pc) L (.int (nI i) :: .ref (o + rm_ps k) :: st) h kc ks Q :=
  mn_iald hd (by rw [h3]; exact zz_T0) (rm_arr ha h1 h2) hi (rm_ln_lt k (rm_ia_lt h1)) kk
theorem rm_zald {k i : Nat} (hd : decode cc pc = .ok (.baload, 1)) (ha : rm_at o F G A B h) (h1 : rm_ia k = true) (h2 : rm_ib k = false) (h3 : rm_tp k = 2) (hi : i < rm_ln k) (kk : mm_V (zz_K l D aa b0) d y cc nL rt (pc + 1) L (.int (A k i) :: st) h kc ks Q) : mm_V (zz_K l D aa b0) d y cc nL rt (pc) L (.int (nI i) :: .ref (o + rm_ps k) :: st) h kc ks Q :=
  mn_zald hd (by rw [h3]; exact zz_T2) (rm_arr ha h1 h2) hi (rm_ln_lt k (rm_ia_lt h1)) kk
theorem rm_lald {k i : Nat} (hd : decode cc pc = .ok (.laload, 1)) (ha : rm_at o F G A B h) (h1 : rm_ia k = true) (h2 : rm_ib k = true) (h3 : rm_tp k = 1) (hi : i < rm_ln k) (kk : mm_V (zz_K l D aa b0) d y cc nL rt (pc + 1) L (.long (B k i) :: st) h kc ks Q) : mm_V (zz_K l D aa b0) d y cc nL rt (pc) L (.int (nI i) :: .ref (o + rm_ps k) :: st) h kc ks Q :=
  mn_lald hd (by rw [h3]; exact zz_T1) (rm_arrL ha h1 h2) hi (rm_ln_lt k (rm_ia_lt h1)) kk
theorem rm_iast {k i : Nat} {x : Int32} (hd : decode cc pc = .ok (.iastore, 1)) (ha : rm_at o F G A B h) (hf : rm_fr o h0 h) (h1 : rm_ia k = true) (h2 : rm_ib k = false) (h3 : rm_tp k = 0) (hi : i < rm_ln k) (kk : ∀ h : mm_H, rm_at o F G (rm_up A k (upd (A k) i x)) B h → rm_fr o h0 h → mm_V (zz_K l D aa b0) d y cc nL rt (pc + 1) L (st) h kc ks Q) : mm_V (zz_K l D aa b0) d y cc nL rt (pc) L (.int x :: .int (nI i) :: .ref (o + rm_ps k) :: st) h kc ks Q :=
  mn_iast hd (by rw [h3]; exact zz_T0) (rm_arr ha h1 h2) hi (rm_ln_lt k (rm_ia_lt h1)) (kk _ (rm_setE ha h1 (by unfold rm_e1; rw [if_neg (by rw [h2]; decide), rm_up_s]) (fun j hj => by unfold rm_e1; rw [rm_up_n hj])) (hf.set (rm_ps_pos k (rm_ia_lt h1) h1).2))
theorem rm_zast {k i : Nat} {x : Int32} (hd : decode cc pc = .ok (.bastore, 1)) (ha : rm_at o F G A B h) (hf : rm_fr o h0 h) (h1 : rm_ia k = true) (h2 : rm_ib k = false) (h3 : rm_tp k = 2) (hi : i < rm_ln k) (hx : vp_nar .boolean x = x) (kk : ∀ h : mm_H, rm_at o F G (rm_up A k (upd (A k) i x)) B h → rm_fr o h0 h → mm_V (zz_K l D aa b0) d y cc nL rt (pc + 1) L (st) h kc ks Q) : mm_V (zz_K l D aa b0) d y cc nL rt (pc) L (.int x :: .int (nI i) :: .ref (o + rm_ps k) :: st) h kc ks Q :=
  mn_zast hd (by rw [h3]; exact zz_T2) (rm_arr ha h1 h2) hi (rm_ln_lt k (rm_ia_lt h1)) hx (kk _ (rm_setE ha h1 (by unfold rm_e1; rw [if_neg (by rw [h2]; decide), rm_up_s]) (fun j hj => by unfold rm_e1; rw [rm_up_n hj])) (hf.set (rm_ps_pos k (rm_ia_lt h1) h1).2))
theorem rm_last {k i : Nat} {x : Int64} (hd : decode cc pc = .ok (.lastore, 1)) (ha : rm_at o F G A B h) (hf : rm_fr o h0 h) (h1 : rm_ia k = true) (h2 : rm_ib k = true) (h3 : rm_tp k = 1) (hi : i < rm_ln k) (kk : ∀ h : mm_H, rm_at o F G A (rm_up B k (vp_updL (B k) i x)) h → rm_fr o h0 h → mm_V (zz_K l D aa b0) d y cc nL rt (pc + 1) L (st) h kc ks Q) : mm_V (zz_K l D aa b0) d y cc nL rt (pc) L (.long x :: .int (nI i) :: .ref (o + rm_ps k) :: st) h kc ks Q :=
  mn_last hd (by rw [h3]; exact zz_T1) (rm_arrL ha h1 h2) hi (rm_ln_lt k (rm_ia_lt h1)) (kk _ (rm_setE ha h1 (by unfold rm_e1; rw [if_pos h2, rm_up_s]) (fun j hj => by unfold rm_e1; rw [rm_up_n hj])) (hf.set (rm_ps_pos k (rm_ia_lt h1) h1).2))
theorem rm_callV {idx n d2 : Nat} {y2 : MethodName} {cc2 : ByteArray} {nL2 : Nat} {rt2 : Option FieldType} {As rest : List Value} {Q1 : Option Value → mm_H → Prop} {st0 : List Value} (hd : decode cc pc = .ok (.invokevirtual idx, 3)) (ha : rm_at o F G A B h) (hC : mm_C (zz_K l D aa b0) y.cls idx y2 cc2 nL2 rt2 n (.instanceMethod y2)) (hsel : Cond.selects y2.cls y2 y2 ∈ wsL_law) (hcls : y2.cls = RX12) (hst : st0 = As.reverse ++ .ref o :: rest) (hn : As.length = n) (hcat : (rest.map fun v => v.category).sum ≤ 8) (hlen : (lg_sl (mm_S (zz_K l D aa b0) (.ref o :: As))).length ≤ nL2) (hdd : d2 + 1 ≤ d ∧ 19 + nL2 + 39 * d2 ≤ 39 * d)
    (hV : mm_V (zz_K l D aa b0) d2 y2 cc2 nL2 rt2 0 (lv_args 0 (.ref o :: As)) [] h 0 0 Q1)
    (kk : ∀ (r : Option Value) (h1 : mm_H), Q1 r h1 → mm_V (zz_K l D aa b0) d y cc nL rt (pc + 3) L (r.toList ++ rest) h1 kc ks Q) : mm_V (zz_K l D aa b0) d y cc nL rt pc L st0 h kc ks Q :=
  mm_callV (T := TX12) (N := 54) hd zz_G hC hsel (by rw [hcls]; rfl) ha.1 hst hn hcat hlen hdd hV (Nat.zero_le _) (Nat.zero_le _) kk
theorem rm_callS {idx n d2 : Nat} {y2 : MethodName} {cc2 : ByteArray} {nL2 : Nat} {rt2 : Option FieldType} {As rest : List Value} {Q1 : Option Value → mm_H → Prop} {st0 : List Value} (hd : decode cc pc = .ok (.invokestatic idx, 3)) (hC : mm_C (zz_K l D aa b0) y.cls idx y2 cc2 nL2 rt2 n (.static y2)) (hst : st0 = As.reverse ++ rest) (hn : As.length = n) (hcat : (rest.map fun v => v.category).sum ≤ 8) (hlen : (lg_sl (mm_S (zz_K l D aa b0) As)).length ≤ nL2) (hdd : d2 + 1 ≤ d ∧ 19 + nL2 + 39 * d2 ≤ 39 * d)
    (hV : mm_V (zz_K l D aa b0) d2 y2 cc2 nL2 rt2 0 (lv_args 0 As) [] h 0 0 Q1)
    (kk : ∀ (r : Option Value) (h1 : mm_H), Q1 r h1 → mm_V (zz_K l D aa b0) d y cc nL rt (pc + 3) L (r.toList ++ rest) h1 kc ks Q) : mm_V (zz_K l D aa b0) d y cc nL rt pc L st0 h kc ks Q :=
  mm_callS hd zz_G hC hst hn hcat hlen hdd hV (Nat.zero_le _) (Nat.zero_le _) kk
theorem rm_callVr {idx n d2 : Nat} {y2 : MethodName} {cc2 : ByteArray} {nL2 : Nat} {rt2 : Option FieldType} {As rest : List Value} {st0 : List Value} {v : Value} (hd : decode cc pc = .ok (.invokevirtual idx, 3)) (ha : rm_at o F G A B h) (hC : mm_C (zz_K l D aa b0) y.cls idx y2 cc2 nL2 rt2 n (.instanceMethod y2)) (hsel : Cond.selects y2.cls y2 y2 ∈ wsL_law) (hcls : y2.cls = RX12) (hst : st0 = As.reverse ++ .ref o :: rest) (hn : As.length = n) (hcat : (rest.map fun v => v.category).sum ≤ 8) (hlen : (lg_sl (mm_S (zz_K l D aa b0) (.ref o :: As))).length ≤ nL2) (hdd : d2 + 1 ≤ d ∧ 19 + nL2 + 39 * d2 ≤ 39 * d)
    (hV : mm_V (zz_K l D aa b0) d2 y2 cc2 nL2 rt2 0 (lv_args 0 (.ref o :: As)) [] h 0 0 (fun r h' => h' = h ∧ r = some v))
    (kk : mm_V (zz_K l D aa b0) d y cc nL rt (pc + 3) L (v :: rest) h kc ks Q) : mm_V (zz_K l D aa b0) d y cc nL rt pc L st0 h kc ks Q :=
  rm_callV hd ha hC hsel hcls hst hn hcat hlen hdd hV (fun r h1 hq => by rw [hq.1, hq.2]; exact kk)
theorem rm_callSr {idx n d2 : Nat} {y2 : MethodName} {cc2 : ByteArray} {nL2 : Nat} {rt2 : Option FieldType} {As rest : List Value} {st0 : List Value} {v : Value} (hd : decode cc pc = .ok (.invokestatic idx, 3)) (hC : mm_C (zz_K l D aa b0) y.cls idx y2 cc2 nL2 rt2 n (.static y2)) (hst : st0 = As.reverse ++ rest) (hn : As.length = n) (hcat : (rest.map fun v => v.category).sum ≤ 8) (hlen : (lg_sl (mm_S (zz_K l D aa b0) As)).length ≤ nL2) (hdd : d2 + 1 ≤ d ∧ 19 + nL2 + 39 * d2 ≤ 39 * d)
    (hV : mm_V (zz_K l D aa b0) d2 y2 cc2 nL2 rt2 0 (lv_args 0 As) [] h 0 0 (fun r h' => h' = h ∧ r = some v))
    (kk : mm_V (zz_K l D aa b0) d y cc nL rt (pc + 3) L (v :: rest) h kc ks Q) : mm_V (zz_K l D aa b0) d y cc nL rt pc L st0 h kc ks Q :=
  rm_callS hd hC hst hn hcat hlen hdd hV (fun r h1 hq => by rw [hq.1, hq.2]; exact kk)
end RMR
