/-! the class: its objects and its arrays as functions; o is the address of the first, offsets from there -/
def cm_sh (a : Nat) : Nat × Nat × Nat × Nat := [(0, 11, 8, 0), (4, 61, 6, 10), (4, 121, 6, 8), (0, 5, 13, 0), (0, 0, 7, 0), (1, 0, 128, 0), (1, 0, 128, 0), (1, 0, 128, 0), (1, 0, 128, 0), (1, 0, 128, 0), (0, 7, 13, 0), (1, 0, 3591, 0), (1, 0, 189, 0), (1, 0, 189, 0), (1, 0, 189, 0), (1, 0, 7, 0), (1, 0, 7, 0), (1, 0, 7, 0), (1, 0, 7, 0), (1, 0, 7, 0), (0, 3, 5, 0), (2, 0, 4000, 0), (1, 0, 1000, 0), (1, 0, 1000, 0), (1, 0, 129, 0), (0, 1, 6, 0), (1, 0, 48, 0), (1, 0, 24, 0), (1, 0, 48, 0), (1, 0, 48, 0), (1, 0, 48, 0), (1, 0, 48, 0), (1, 0, 48, 0), (1, 0, 48, 0), (1, 0, 48, 0), (0, 10, 10, 0), (0, 9, 9, 0), (1, 0, 7, 0), (1, 0, 24, 0), (0, 6, 9, 0), (1, 0, 24, 0), (1, 0, 24, 0), (1, 0, 24, 0), (3, 0, 24, 0), (1, 0, 24, 0), (1, 0, 24, 0), (1, 0, 3, 0), (1, 0, 3, 0), (1, 0, 42, 0), (1, 0, 3, 0), (1, 0, 6, 0), (0, 8, 5, 0), (2, 0, 25, 0), (2, 0, 25, 0), (0, 4, 2, 0), (0, 4, 2, 0), (0, 8, 5, 0), (2, 0, 25, 0), (2, 0, 25, 0), (0, 4, 2, 0), (0, 4, 2, 0), (0, 9, 9, 0), (1, 0, 7, 0), (1, 0, 24, 0), (0, 6, 9, 0), (1, 0, 24, 0), (1, 0, 24, 0), (1, 0, 24, 0), (3, 0, 24, 0), (1, 0, 24, 0), (1, 0, 24, 0), (0, 9, 9, 0), (1, 0, 7, 0), (1, 0, 24, 0), (0, 6, 9, 0), (1, 0, 24, 0), (1, 0, 24, 0), (1, 0, 24, 0), (3, 0, 24, 0), (1, 0, 24, 0), (1, 0, 24, 0), (0, 9, 9, 0), (1, 0, 7, 0), (1, 0, 24, 0), (0, 6, 9, 0), (1, 0, 24, 0), (1, 0, 24, 0), (1, 0, 24, 0), (3, 0, 24, 0), (1, 0, 24, 0), (1, 0, 24, 0), (0, 9, 9, 0), (1, 0, 7, 0), (1, 0, 24, 0), (0, 6, 9, 0), (1, 0, 24, 0), (1, 0, 24, 0), (1, 0, 24, 0), (3, 0, 24, 0), (1, 0, 24, 0), (1, 0, 24, 0), (0, 9, 9, 0), (1, 0, 7, 0), (1, 0, 24, 0), (0, 6, 9, 0), (1, 0, 24, 0), (1, 0, 24, 0), (1, 0, 24, 0), (3, 0, 24, 0), (1, 0, 24, 0), (1, 0, 24, 0), (0, 9, 9, 0), (1, 0, 7, 0), (1, 0, 24, 0), (0, 6, 9, 0), (1, 0, 24, 0), (1, 0, 24, 0), (1, 0, 24, 0), (3, 0, 24, 0), (1, 0, 24, 0), (1, 0, 24, 0), (0, 2, 8, 0), (1, 0, 24, 0), (2, 0, 24, 0), (2, 0, 24, 0), (2, 0, 24, 0), (2, 0, 24, 0), (0, 4, 2, 0), (0, 4, 2, 0), (0, 2, 8, 0), (1, 0, 24, 0), (2, 0, 24, 0), (2, 0, 24, 0), (2, 0, 24, 0), (2, 0, 24, 0), (0, 4, 2, 0), (0, 4, 2, 0), (0, 2, 8, 0), (1, 0, 24, 0), (2, 0, 24, 0), (2, 0, 24, 0), (2, 0, 24, 0), (2, 0, 24, 0), (0, 4, 2, 0), (0, 4, 2, 0), (0, 2, 8, 0), (1, 0, 24, 0), (2, 0, 24, 0), (2, 0, 24, 0), (2, 0, 24, 0), (2, 0, 24, 0), (0, 4, 2, 0), (0, 4, 2, 0), (0, 2, 8, 0), (1, 0, 24, 0), (2, 0, 24, 0), (2, 0, 24, 0), (2, 0, 24, 0), (2, 0, 24, 0), (0, 4, 2, 0), (0, 4, 2, 0), (0, 2, 8, 0), (1, 0, 24, 0), (2, 0, 24, 0), (2, 0, 24, 0), (2, 0, 24, 0), (2, 0, 24, 0), (0, 4, 2, 0), (0, 4, 2, 0)].getD a (9, 0, 0, 0)
def cm_fk (ci k : Nat) : Nat × Nat := ([[(2, 1), (2, 2), (2, 3), (2, 4), (2, 5), (2, 6), (0, 0)], [(2, 1), (2, 2), (0, 0), (0, 0), (0, 0), (0, 0)], [(2, 1), (2, 2), (2, 3), (2, 4), (2, 5), (2, 6), (2, 7), (0, 0)], [(2, 1), (2, 2), (2, 3), (2, 4), (0, 0)], [(1, 0), (1, 0)], [(2, 1), (2, 17), (2, 22), (2, 25), (2, 26), (2, 27), (2, 28), (2, 29), (2, 30), (2, 31), (0, 0), (0, 0), (3, 0)], [(2, 1), (2, 2), (2, 3), (2, 4), (2, 5), (2, 6), (0, 0), (0, 0), (0, 0)], [(2, 1), (2, 2), (2, 3), (2, 4), (2, 5), (2, 6), (2, 7), (2, 8), (2, 9), (0, 0), (0, 0), (0, 0), (0, 0)], [(2, 1), (2, 2), (2, 3), (2, 4), (0, 0)], [(2, 1), (2, 2), (2, 3), (0, 0), (0, 0), (0, 0), (0, 0), (0, 0), (0, 0)], [(2, 1), (2, 11), (2, 12), (2, 13), (2, 14), (2, 15), (0, 0), (0, 0), (0, 0), (0, 0)], [(2, 1), (2, 2), (2, 3), (2, 35), (2, 51), (2, 56), (0, 0), (0, 0)]].getD ci []).getD k (9, 0)
abbrev cm_n : Nat := 169
def cm_fv (o : Nat) (x : Nat → Int32) (y : Nat → Int64) (rl : Option Nat) (a ci k : Nat) : Value := match (cm_fk ci k).1 with
  | 0 => .int (x k)
  | 1 => .long (y k)
  | 2 => .ref (o + (a + (cm_fk ci k).2))
  | _ => mm_rf (rl.map (fun q => o + q))
def cm_e (o : Nat) (x : Nat → Int32) (y : Nat → Int64) (rl : Option Nat) (a : Nat) : mm_E := match (cm_sh a).1 with
  | 0 => .inr ((cm_sh a).2.1, (List.range (cm_sh a).2.2.1).map (cm_fv o x y rl a (cm_sh a).2.1))
  | 1 => .inl (0, (cm_sh a).2.2.1, .inl x)
  | 2 => .inl (1, (cm_sh a).2.2.1, .inr (.inl y))
  | 3 => .inl (2, (cm_sh a).2.2.1, .inl x)
  | _ => .inl (if (cm_sh a).2.1 = 61 then 5 else 6, (cm_sh a).2.2.1, .inr (.inr (.inr (.inr (fun j => some (o + ((cm_sh a).2.1 + (cm_sh a).2.2.2 * j)))))))
def cm_at (o : Nat) (X : Nat → Nat → Int32) (Y : Nat → Nat → Int64) (rl : Option Nat) (h : mm_H) : Prop := ∀ a : Nat, a < cm_n → h.2 (o + a) = some (cm_e o (X a) (Y a) rl a)
def cm_fr (o : Nat) (h0 h : mm_H) : Prop := h.1 = h0.1 ∧ ∀ q : Nat, (q < o ∨ o + cm_n ≤ q) → h.2 q = h0.2 q
def xu {α : Type} (X : Nat → Nat → α) (a i : Nat) (v : α) : Nat → Nat → α := fun b j => if b = a ∧ j = i then v else X b j
theorem xu_s {α : Type} {X : Nat → Nat → α} {a i : Nat} {v : α} : xu X a i v a i = v := if_pos ⟨rfl, rfl⟩
theorem xu_a {α : Type} {X : Nat → Nat → α} {a i b j : Nat} {v : α} (h : b ≠ a) : xu X a i v b j = X b j := if_neg (fun z => h z.1)
theorem xu_i {α : Type} {X : Nat → Nat → α} {a i b j : Nat} {v : α} (h : j ≠ i) : xu X a i v b j = X b j := if_neg (fun z => h z.2)
theorem xu_b {α : Type} {X : Nat → Nat → α} {a i b : Nat} {v : α} (h : b ≠ a) : xu X a i v b = X b := funext (fun _ => xu_a h)
theorem cm_fr.rf {o : Nat} {h : mm_H} : cm_fr o h h := ⟨rfl, fun _ _ => rfl⟩
theorem cm_fr.tr {o : Nat} {h0 h1 h2 : mm_H} (a : cm_fr o h0 h1) (b : cm_fr o h1 h2) : cm_fr o h0 h2 := ⟨b.1.trans a.1, fun q hq => (b.2 q hq).trans (a.2 q hq)⟩
theorem cm_fr.set {o : Nat} {h0 h : mm_H} {p : Nat} {e : mm_E} (hf : cm_fr o h0 h) (hp : p < cm_n) : cm_fr o h0 (mm_set h (o + p) e) := by
  refine ⟨hf.1, fun a ha => ?_⟩
  unfold mm_set
  dsimp only
  rw [if_neg (by omega)]
  exact hf.2 a ha
theorem cm_set {o : Nat} {X X' : Nat → Nat → Int32} {Y Y' : Nat → Nat → Int64} {rl rl' : Option Nat} {h : mm_H} {a : Nat} {e : mm_E} (ha : cm_at o X Y rl h) (he : cm_e o (X' a) (Y' a) rl' a = e) (hn : ∀ b : Nat, b < cm_n → b ≠ a → cm_e o (X' b) (Y' b) rl' b = cm_e o (X b) (Y b) rl b) : cm_at o X' Y' rl' (mm_set h (o + a) e) := by
  intro b hb
  unfold mm_set
  dsimp only
  by_cases hba : b = a
  · subst hba
    rw [if_pos rfl, he]
  · rw [if_neg (by omega), hn b hb hba]
    exact ha b hb
theorem cm_e_0 {o : Nat} {x : Nat → Int32} {y : Nat → Int64} {rl : Option Nat} {a ci N : Nat} (hs : cm_sh a = (0, ci, N, 0)) : cm_e o x y rl a = .inr (ci, (List.range N).map (cm_fv o x y rl a ci)) := by unfold cm_e; rw [hs]; rfl
theorem cm_e_1 {o : Nat} {x : Nat → Int32} {y : Nat → Int64} {rl : Option Nat} {a n : Nat} (hs : cm_sh a = (1, 0, n, 0)) : cm_e o x y rl a = .inl (0, n, .inl x) := by unfold cm_e; rw [hs]; rfl
theorem cm_e_2 {o : Nat} {x : Nat → Int32} {y : Nat → Int64} {rl : Option Nat} {a n : Nat} (hs : cm_sh a = (2, 0, n, 0)) : cm_e o x y rl a = .inl (1, n, .inr (.inl y)) := by unfold cm_e; rw [hs]; rfl
theorem cm_e_3 {o : Nat} {x : Nat → Int32} {y : Nat → Int64} {rl : Option Nat} {a n : Nat} (hs : cm_sh a = (3, 0, n, 0)) : cm_e o x y rl a = .inl (2, n, .inl x) := by unfold cm_e; rw [hs]; rfl
theorem cm_fv_0 {o : Nat} {x : Nat → Int32} {y : Nat → Int64} {rl : Option Nat} {a ci k d : Nat} (hf : cm_fk ci k = (0, d)) : cm_fv o x y rl a ci k = .int (x k) := by unfold cm_fv; rw [hf]; rfl
theorem cm_fv_1 {o : Nat} {x : Nat → Int32} {y : Nat → Int64} {rl : Option Nat} {a ci k d : Nat} (hf : cm_fk ci k = (1, d)) : cm_fv o x y rl a ci k = .long (y k) := by unfold cm_fv; rw [hf]; rfl
theorem cm_fv_2 {o : Nat} {x : Nat → Int32} {y : Nat → Int64} {rl : Option Nat} {a ci k d : Nat} (hf : cm_fk ci k = (2, d)) : cm_fv o x y rl a ci k = .ref (o + (a + d)) := by unfold cm_fv; rw [hf]; rfl
theorem cm_fv_3 {o : Nat} {x : Nat → Int32} {y : Nat → Int64} {rl : Option Nat} {a ci k d : Nat} (hf : cm_fk ci k = (3, d)) : cm_fv o x y rl a ci k = mm_rf (rl.map (fun q => o + q)) := by unfold cm_fv; rw [hf]; rfl
theorem cm_obj {o : Nat} {X : Nat → Nat → Int32} {Y : Nat → Nat → Int64} {rl : Option Nat} {h : mm_H} {a ci N : Nat} (ha : cm_at o X Y rl h) (h1 : a < cm_n) (hs : cm_sh a = (0, ci, N, 0)) : h.2 (o + a) = some (.inr (ci, (List.range N).map (cm_fv o (X a) (Y a) rl a ci))) := by
  rw [ha a h1, cm_e_0 hs]
theorem cm_fs_at {o : Nat} {x : Nat → Int32} {y : Nat → Int64} {rl : Option Nat} {a ci N k : Nat} (hk : k < N) : ((List.range N).map (cm_fv o x y rl a ci))[k]? = some (cm_fv o x y rl a ci k) := by
  rw [List.getElem?_map, List.getElem?_range hk]
  rfl
theorem cm_fs_set {o : Nat} {x x' : Nat → Int32} {y y' : Nat → Int64} {rl rl' : Option Nat} {a ci N k : Nat} {v : Value} (hk : k < N) (hv : cm_fv o x' y' rl' a ci k = v) (hn : ∀ j : Nat, j < N → j ≠ k → cm_fv o x' y' rl' a ci j = cm_fv o x y rl a ci j) : ((List.range N).map (cm_fv o x y rl a ci)).set k v = (List.range N).map (cm_fv o x' y' rl' a ci) := by
  apply List.ext_getElem?
  intro j
  by_cases hj : j < N
  · rw [cm_fs_at hj]
    by_cases hjk : k = j
    · subst hjk
      rw [List.getElem?_set_self (by rw [List.length_map, List.length_range]; exact hk), hv]
    · rw [List.getElem?_set_ne hjk, cm_fs_at hj, hn j hj (fun q => hjk q.symm)]
  · rw [List.getElem?_eq_none (by rw [List.length_set, List.length_map, List.length_range]; omega), List.getElem?_eq_none (by rw [List.length_map, List.length_range]; omega)]
theorem cm_upx {X : Nat → Nat → Int32} {a i : Nat} {x : Int32} : xu X a i x a = upd (X a) i x := by
  funext j
  unfold xu upd
  by_cases h : j = i
  · rw [if_pos ⟨rfl, h⟩, if_pos h]
  · rw [if_neg (fun z => h z.2), if_neg h]
theorem cm_upl {Y : Nat → Nat → Int64} {a i : Nat} {x : Int64} : xu Y a i x a = vp_updL (Y a) i x := by
  funext j
  unfold xu vp_updL
  by_cases h : j = i
  · rw [if_pos ⟨rfl, h⟩, if_pos h]
  · rw [if_neg (fun z => h z.2), if_neg h]
theorem cm_rl3 : ∀ a, a < cm_n → (cm_sh a).1 = 0 → (cm_sh a).2.1 = 5 → a = 3 := by decide +kernel
theorem cm_fk3 : ∀ ci, ci < 12 → ∀ k, k < 14 → (cm_fk ci k).1 = 3 → ci = 5 := by decide +kernel
theorem cm_shc : ∀ a, a < cm_n → (cm_sh a).1 = 0 → (cm_sh a).2.1 < 12 ∧ (cm_sh a).2.2.1 < 14 := by decide +kernel
theorem cm_fk_lt : ∀ ci, ci < 12 → ∀ k, k < 14 → (cm_fk ci k).1 = 0 ∨ (cm_fk ci k).1 = 1 ∨ (cm_fk ci k).1 = 2 ∨ (cm_fk ci k).1 = 3 ∨ (cm_fk ci k).1 = 9 := by decide +kernel
theorem cm_fkn : ∀ a, a < cm_n → (cm_sh a).1 = 0 → ∀ k, k < (cm_sh a).2.2.1 → (cm_fk (cm_sh a).2.1 k).1 ≠ 9 := by decide +kernel
theorem cm_e_rl {o : Nat} {x : Nat → Int32} {y : Nat → Int64} {rl rl' : Option Nat} (b : Nat) (hb : b < cm_n) (h3 : b ≠ 3) : cm_e o x y rl' b = cm_e o x y rl b := by
  unfold cm_e
  split
  · next h0 =>
    congr 2
    apply List.map_congr_left
    intro k hk
    rw [List.mem_range] at hk
    obtain ⟨c1, c2⟩ := cm_shc b hb h0
    have hne : (cm_sh b).2.1 ≠ 5 := fun z => h3 (cm_rl3 b hb h0 z)
    have h9 := cm_fkn b hb h0 k hk
    unfold cm_fv
    split
    · rfl
    · rfl
    · rfl
    · next q1 q2 q3 =>
      exfalso
      rcases cm_fk_lt (cm_sh b).2.1 c1 k (by omega) with z | z | z | z | z
      · exact q1 z
      · exact q2 z
      · exact q3 z
      · exact hne (cm_fk3 _ c1 k (by omega) z)
      · exact h9 z
  · rfl
  · rfl
  · rfl
  · rfl
theorem cm_fk5 : ∀ j, j < 13 → j ≠ 12 → (cm_fk 5 j).1 < 3 := by decide +kernel
theorem cm_fk5b : ∀ k, k < 13 → (cm_fk 5 k).1 = 3 → k = 12 := by decide +kernel
section CMR
variable {l : Launch} {D : va_G} {aa : Nat → ClassId} {b0 : Nat} {d : Nat} {y : MethodName} {cc : ByteArray} {nL : Nat} {rt : Option FieldType} {pc : Nat} {L : List (Nat × Value)} {st : List Value} {h h0 : mm_H} {kc ks : Nat} {Q : Option Value → mm_H → Prop} {o : Nat} {X : Nat → Nat → Int32} {Y : Nat → Nat → Int64} {rl : Option Nat}
theorem cm_getI {idx ci k N a : Nat} (hd : decode cc pc = .ok (.getfield idx, 3)) (ha : cm_at o X Y rl h) (hF : mm_Fr (zz_K l D aa b0) y.cls idx ci k N) (h1 : a < cm_n) (hs : cm_sh a = (0, ci, N, 0)) (hf : cm_fk ci k = (0, 0)) (kk : mm_V (zz_K l D aa b0) d y cc nL rt (pc + 3) L (.int (X a k) :: st) h kc ks Q) : mm_V (zz_K l D aa b0) d y cc nL rt (pc) L (.ref (o + a) :: st) h kc ks Q :=
  mm_getr hd hF (cm_obj ha h1 hs) (by rw [cm_fs_at (by obtain ⟨_, _, _, _, q, _⟩ := hF; exact q), cm_fv_0 hf]) kk
theorem cm_getJ {idx ci k N a : Nat} (hd : decode cc pc = .ok (.getfield idx, 3)) (ha : cm_at o X Y rl h) (hF : mm_Fr (zz_K l D aa b0) y.cls idx ci k N) (h1 : a < cm_n) (hs : cm_sh a = (0, ci, N, 0)) (hf : cm_fk ci k = (1, 0)) (kk : mm_V (zz_K l D aa b0) d y cc nL rt (pc + 3) L (.long (Y a k) :: st) h kc ks Q) : mm_V (zz_K l D aa b0) d y cc nL rt (pc) L (.ref (o + a) :: st) h kc ks Q :=
  mm_getr hd hF (cm_obj ha h1 hs) (by rw [cm_fs_at (by obtain ⟨_, _, _, _, q, _⟩ := hF; exact q), cm_fv_1 hf]) kk
theorem cm_getR {idx ci k N a dd b : Nat} (hd : decode cc pc = .ok (.getfield idx, 3)) (ha : cm_at o X Y rl h) (hF : mm_Fr (zz_K l D aa b0) y.cls idx ci k N) (h1 : a < cm_n) (hs : cm_sh a = (0, ci, N, 0)) (hf : cm_fk ci k = (2, dd)) (hb : a + dd = b) (kk : mm_V (zz_K l D aa b0) d y cc nL rt (pc + 3) L (.ref (o + b) :: st) h kc ks Q) : mm_V (zz_K l D aa b0) d y cc nL rt (pc) L (.ref (o + a) :: st) h kc ks Q :=
  mm_getr hd hF (cm_obj ha h1 hs) (by rw [cm_fs_at (by obtain ⟨_, _, _, _, q, _⟩ := hF; exact q), cm_fv_2 hf, ← hb]) kk
theorem cm_getL {idx ci k N a : Nat} (hd : decode cc pc = .ok (.getfield idx, 3)) (ha : cm_at o X Y rl h) (hF : mm_Fr (zz_K l D aa b0) y.cls idx ci k N) (h1 : a < cm_n) (hs : cm_sh a = (0, ci, N, 0)) (hf : cm_fk ci k = (3, 0)) (kk : mm_V (zz_K l D aa b0) d y cc nL rt (pc + 3) L (mm_rf (rl.map (fun q => o + q)) :: st) h kc ks Q) : mm_V (zz_K l D aa b0) d y cc nL rt (pc) L (.ref (o + a) :: st) h kc ks Q :=
  mm_getr hd hF (cm_obj ha h1 hs) (by rw [cm_fs_at (by obtain ⟨_, _, _, _, q, _⟩ := hF; exact q), cm_fv_3 hf]) kk
theorem cm_putI {idx ci k N a : Nat} {ty : FieldType} {x : Int32} (hd : decode cc pc = .ok (.putfield idx, 3)) (ha : cm_at o X Y rl h) (hr : cm_fr o h0 h) (hF : mm_F (zz_K l D aa b0) y.cls idx ci k N ty false) (h1 : a < cm_n) (hs : cm_sh a = (0, ci, N, 0)) (hf : cm_fk ci k = (0, 0)) (hn : narrow ty (.int x) = .int x) (hfit : fits ty (.int x) = true) (kk : ∀ h : mm_H, cm_at o (xu X a k x) Y rl h → cm_fr o h0 h → mm_V (zz_K l D aa b0) d y cc nL rt (pc + 3) L (st) h kc ks Q) : mm_V (zz_K l D aa b0) d y cc nL rt (pc) L (.int x :: .ref (o + a) :: st) h kc ks Q := by
  have hk : k < N := by obtain ⟨_, _, _, _, _, _, _, q, _⟩ := hF; exact q
  refine mm_put hd hF (cm_obj ha h1 hs) (by rw [List.length_map, List.length_range]; exact hk) hn hfit (kk _ (cm_set ha ?_ (fun b _ hb => by rw [xu_b hb])) (hr.set h1))
  rw [cm_e_0 hs, cm_fs_set (x' := xu X a k x a) (y' := Y a) (rl' := rl) hk (by rw [cm_fv_0 hf, xu_s]) (fun j _ hj => by unfold cm_fv; split <;> first | rfl | (rw [xu_i hj]))]
theorem cm_putJ {idx ci k N a : Nat} {ty : FieldType} {x : Int64} (hd : decode cc pc = .ok (.putfield idx, 3)) (ha : cm_at o X Y rl h) (hr : cm_fr o h0 h) (hF : mm_F (zz_K l D aa b0) y.cls idx ci k N ty false) (h1 : a < cm_n) (hs : cm_sh a = (0, ci, N, 0)) (hf : cm_fk ci k = (1, 0)) (hn : narrow ty (.long x) = .long x) (hfit : fits ty (.long x) = true) (kk : ∀ h : mm_H, cm_at o X (xu Y a k x) rl h → cm_fr o h0 h → mm_V (zz_K l D aa b0) d y cc nL rt (pc + 3) L (st) h kc ks Q) : mm_V (zz_K l D aa b0) d y cc nL rt (pc) L (.long x :: .ref (o + a) :: st) h kc ks Q := by
  have hk : k < N := by obtain ⟨_, _, _, _, _, _, _, q, _⟩ := hF; exact q
  refine mm_put hd hF (cm_obj ha h1 hs) (by rw [List.length_map, List.length_range]; exact hk) hn hfit (kk _ (cm_set ha ?_ (fun b _ hb => by rw [xu_b hb])) (hr.set h1))
  rw [cm_e_0 hs, cm_fs_set (x' := X a) (y' := xu Y a k x a) (rl' := rl) hk (by rw [cm_fv_1 hf, xu_s]) (fun j _ hj => by unfold cm_fv; split <;> first | rfl | (rw [xu_i hj]))]
theorem cm_putL {idx k N v : Nat} {ty : FieldType} (hd : decode cc pc = .ok (.putfield idx, 3)) (ha : cm_at o X Y rl h) (hr : cm_fr o h0 h) (hF : mm_F (zz_K l D aa b0) y.cls idx 5 k N ty false) (hs : cm_sh 3 = (0, 5, N, 0)) (hf : cm_fk 5 k = (3, 0)) (hn : narrow ty (.ref (o + v)) = .ref (o + v)) (hfit : fits ty (.ref (o + v)) = true) (kk : ∀ h : mm_H, cm_at o X Y (some v) h → cm_fr o h0 h → mm_V (zz_K l D aa b0) d y cc nL rt (pc + 3) L (st) h kc ks Q) : mm_V (zz_K l D aa b0) d y cc nL rt (pc) L (.ref (o + v) :: .ref (o + 3) :: st) h kc ks Q := by
  have hk : k < N := by obtain ⟨_, _, _, _, _, _, _, q, _⟩ := hF; exact q
  refine mm_put hd hF (cm_obj ha (by decide) hs) (by rw [List.length_map, List.length_range]; exact hk) hn hfit (kk _ (cm_set ha ?_ (fun b hb hb3 => cm_e_rl b hb hb3)) (hr.set (by decide)))
  rw [cm_e_0 hs, cm_fs_set (x' := X 3) (y' := Y 3) (rl' := some v) hk (by rw [cm_fv_3 hf]; rfl) (fun j hjN hj => by
    have hN : N = 13 := by have e : cm_sh 3 = (0, 5, 13, 0) := rfl; rw [e] at hs; cases hs; rfl
    subst hN
    have hk12 := cm_fk5b k hk (by rw [hf])
    have hj3 := cm_fk5 j hjN (by omega)
    unfold cm_fv
    split
    · rfl
    · rfl
    · rfl
    · next q1 q2 q3 =>
      rcases (show (cm_fk 5 j).1 = 0 ∨ (cm_fk 5 j).1 = 1 ∨ (cm_fk 5 j).1 = 2 by omega) with z | z | z
      · exact absurd z q1
      · exact absurd z q2
      · exact absurd z q3)]
theorem cm_iald {a i n : Nat} (hd : decode cc pc = .ok (.iaload, 1)) (ha : cm_at o X Y rl h) (h1 : a < cm_n) (hs : cm_sh a = (1, 0, n, 0)) (hi : i < n) (hn : n < 2 ^ 31) (kk : mm_V (zz_K l D aa b0) d y cc nL rt (pc + 1) L (.int (X a i) :: st) h kc ks Q) : mm_V (zz_K l D aa b0) d y cc nL rt (pc) L (.int (nI i) :: .ref (o + a) :: st) h kc ks Q :=
  mn_iald hd zz_T0 (by rw [ha a h1, cm_e_1 hs]) hi hn kk
theorem cm_zald {a i n : Nat} (hd : decode cc pc = .ok (.baload, 1)) (ha : cm_at o X Y rl h) (h1 : a < cm_n) (hs : cm_sh a = (3, 0, n, 0)) (hi : i < n) (hn : n < 2 ^ 31) (kk : mm_V (zz_K l D aa b0) d y cc nL rt (pc + 1) L (.int (X a i) :: st) h kc ks Q) : mm_V (zz_K l D aa b0) d y cc nL rt (pc) L (.int (nI i) :: .ref (o + a) :: st) h kc ks Q :=
  mn_zald hd zz_T2 (by rw [ha a h1, cm_e_3 hs]) hi hn kk
theorem cm_lald {a i n : Nat} (hd : decode cc pc = .ok (.laload, 1)) (ha : cm_at o X Y rl h) (h1 : a < cm_n) (hs : cm_sh a = (2, 0, n, 0)) (hi : i < n) (hn : n < 2 ^ 31) (kk : mm_V (zz_K l D aa b0) d y cc nL rt (pc + 1) L (.long (Y a i) :: st) h kc ks Q) : mm_V (zz_K l D aa b0) d y cc nL rt (pc) L (.int (nI i) :: .ref (o + a) :: st) h kc ks Q :=
  mn_lald hd zz_T1 (by rw [ha a h1, cm_e_2 hs]) hi hn kk
theorem cm_iast {a i n : Nat} {x : Int32} (hd : decode cc pc = .ok (.iastore, 1)) (ha : cm_at o X Y rl h) (hr : cm_fr o h0 h) (h1 : a < cm_n) (hs : cm_sh a = (1, 0, n, 0)) (hi : i < n) (hn : n < 2 ^ 31) (kk : ∀ h : mm_H, cm_at o (xu X a i x) Y rl h → cm_fr o h0 h → mm_V (zz_K l D aa b0) d y cc nL rt (pc + 1) L (st) h kc ks Q) : mm_V (zz_K l D aa b0) d y cc nL rt (pc) L (.int x :: .int (nI i) :: .ref (o + a) :: st) h kc ks Q :=
  mn_iast hd zz_T0 (by rw [ha a h1, cm_e_1 hs]) hi hn (kk _ (cm_set ha (by rw [cm_e_1 hs, cm_upx]) (fun b _ hb => by rw [xu_b hb])) (hr.set h1))
theorem cm_zast {a i n : Nat} {x : Int32} (hd : decode cc pc = .ok (.bastore, 1)) (ha : cm_at o X Y rl h) (hr : cm_fr o h0 h) (h1 : a < cm_n) (hs : cm_sh a = (3, 0, n, 0)) (hi : i < n) (hn : n < 2 ^ 31) (hx : vp_nar .boolean x = x) (kk : ∀ h : mm_H, cm_at o (xu X a i x) Y rl h → cm_fr o h0 h → mm_V (zz_K l D aa b0) d y cc nL rt (pc + 1) L (st) h kc ks Q) : mm_V (zz_K l D aa b0) d y cc nL rt (pc) L (.int x :: .int (nI i) :: .ref (o + a) :: st) h kc ks Q :=
  mn_zast hd zz_T2 (by rw [ha a h1, cm_e_3 hs]) hi hn hx (kk _ (cm_set ha (by rw [cm_e_3 hs, cm_upx]) (fun b _ hb => by rw [xu_b hb])) (hr.set h1))
theorem cm_jast {a i n : Nat} {x : Int64} (hd : decode cc pc = .ok (.lastore, 1)) (ha : cm_at o X Y rl h) (hr : cm_fr o h0 h) (h1 : a < cm_n) (hs : cm_sh a = (2, 0, n, 0)) (hi : i < n) (hn : n < 2 ^ 31) (kk : ∀ h : mm_H, cm_at o X (xu Y a i x) rl h → cm_fr o h0 h → mm_V (zz_K l D aa b0) d y cc nL rt (pc + 1) L (st) h kc ks Q) : mm_V (zz_K l D aa b0) d y cc nL rt (pc) L (.long x :: .int (nI i) :: .ref (o + a) :: st) h kc ks Q :=
  mn_last hd zz_T1 (by rw [ha a h1, cm_e_2 hs]) hi hn (kk _ (cm_set ha (by rw [cm_e_2 hs, cm_upl]) (fun b _ hb => by rw [xu_b hb])) (hr.set h1))
theorem cm_aaldV {i : Nat} (hd : decode cc pc = .ok (.aaload, 1)) (ha : cm_at o X Y rl h) (hi : i < 6) (kk : mm_V (zz_K l D aa b0) d y cc nL rt (pc + 1) L (.ref (o + (61 + 10 * i)) :: st) h kc ks Q) : mm_V (zz_K l D aa b0) d y cc nL rt (pc) L (.int (nI i) :: .ref (o + 1) :: st) h kc ks Q :=
  mm_aald (t := 5) hd zz_T5 (by rw [ha 1 (by decide)]; rfl) (vp_in_nI hi (by decide)) (by rw [nI_clamp (by omega)]; rfl) kk
theorem cm_aaldF {i : Nat} (hd : decode cc pc = .ok (.aaload, 1)) (ha : cm_at o X Y rl h) (hi : i < 6) (kk : mm_V (zz_K l D aa b0) d y cc nL rt (pc + 1) L (.ref (o + (121 + 8 * i)) :: st) h kc ks Q) : mm_V (zz_K l D aa b0) d y cc nL rt (pc) L (.int (nI i) :: .ref (o + 2) :: st) h kc ks Q :=
  mm_aald (t := 6) hd zz_T6 (by rw [ha 2 (by decide)]; rfl) (vp_in_nI hi (by decide)) (by rw [nI_clamp (by omega)]; rfl) kk
theorem cm_alenI {a n : Nat} (hd : decode cc pc = .ok (.arraylength, 1)) (ha : cm_at o X Y rl h) (h1 : a < cm_n) (hs : cm_sh a = (1, 0, n, 0)) (kk : mm_V (zz_K l D aa b0) d y cc nL rt (pc + 1) L (.int (nI n) :: st) h kc ks Q) : mm_V (zz_K l D aa b0) d y cc nL rt (pc) L (.ref (o + a) :: st) h kc ks Q :=
  mm_alen (x := (n, .inl (X a))) hd zz_T0 (by rw [ha a h1, cm_e_1 hs]) rfl kk
theorem cm_alenJ {a n : Nat} (hd : decode cc pc = .ok (.arraylength, 1)) (ha : cm_at o X Y rl h) (h1 : a < cm_n) (hs : cm_sh a = (2, 0, n, 0)) (kk : mm_V (zz_K l D aa b0) d y cc nL rt (pc + 1) L (.int (nI n) :: st) h kc ks Q) : mm_V (zz_K l D aa b0) d y cc nL rt (pc) L (.ref (o + a) :: st) h kc ks Q :=
  mm_alen (x := (n, .inr (.inl (Y a)))) hd zz_T1 (by rw [ha a h1, cm_e_2 hs]) rfl kk
theorem cm_alenV (hd : decode cc pc = .ok (.arraylength, 1)) (ha : cm_at o X Y rl h) (kk : mm_V (zz_K l D aa b0) d y cc nL rt (pc + 1) L (.int (nI 6) :: st) h kc ks Q) : mm_V (zz_K l D aa b0) d y cc nL rt (pc) L (.ref (o + 1) :: st) h kc ks Q :=
  mm_alen (x := (6, .inr (.inr (.inr (.inr (fun j => some (o + (61 + 10 * j)))))))) hd zz_T5 (by rw [ha 1 (by decide)]; rfl) rfl kk
theorem cm_alenF (hd : decode cc pc = .ok (.arraylength, 1)) (ha : cm_at o X Y rl h) (kk : mm_V (zz_K l D aa b0) d y cc nL rt (pc + 1) L (.int (nI 6) :: st) h kc ks Q) : mm_V (zz_K l D aa b0) d y cc nL rt (pc) L (.ref (o + 2) :: st) h kc ks Q :=
  mm_alen (x := (6, .inr (.inr (.inr (.inr (fun j => some (o + (121 + 8 * j)))))))) hd zz_T6 (by rw [ha 2 (by decide)]; rfl) rfl kk
theorem cm_callV {idx n d2 a ci N : Nat} {T : u_T} {y2 : MethodName} {cc2 : ByteArray} {nL2 : Nat} {rt2 : Option FieldType} {As rest : List Value} {Q1 : Option Value → mm_H → Prop} {st0 : List Value} (hd : decode cc pc = .ok (.invokevirtual idx, 3)) (ha : cm_at o X Y rl h) (h1 : a < cm_n) (hs : cm_sh a = (0, ci, N, 0)) (hcl : vwCl[ci]? = some (y2.cls, T, N)) (hC : mm_C (zz_K l D aa b0) y.cls idx y2 cc2 nL2 rt2 n (.instanceMethod y2)) (hsel : Cond.selects y2.cls y2 y2 ∈ wsL_law) (hst : st0 = As.reverse ++ .ref (o + a) :: rest) (hn : As.length = n) (hcat : (rest.map fun v => v.category).sum ≤ 8) (hlen : (lg_sl (mm_S (zz_K l D aa b0) (.ref (o + a) :: As))).length ≤ nL2) (hdd : d2 + 1 ≤ d ∧ 19 + nL2 + 39 * d2 ≤ 39 * d)
    (hV : mm_V (zz_K l D aa b0) d2 y2 cc2 nL2 rt2 0 (lv_args 0 (.ref (o + a) :: As)) [] h 0 0 Q1)
    (kk : ∀ (r : Option Value) (h1 : mm_H), Q1 r h1 → mm_V (zz_K l D aa b0) d y cc nL rt (pc + 3) L (r.toList ++ rest) h1 kc ks Q) : mm_V (zz_K l D aa b0) d y cc nL rt pc L st0 h kc ks Q :=
  mm_callV hd zz_G hC hsel hcl (cm_obj ha h1 hs) hst hn hcat hlen hdd hV (Nat.zero_le _) (Nat.zero_le _) kk
theorem cm_callVr {idx n d2 a ci N : Nat} {T : u_T} {y2 : MethodName} {cc2 : ByteArray} {nL2 : Nat} {rt2 : Option FieldType} {As rest : List Value} {st0 : List Value} {v : Value} (hd : decode cc pc = .ok (.invokevirtual idx, 3)) (ha : cm_at o X Y rl h) (h1 : a < cm_n) (hs : cm_sh a = (0, ci, N, 0)) (hcl : vwCl[ci]? = some (y2.cls, T, N)) (hC : mm_C (zz_K l D aa b0) y.cls idx y2 cc2 nL2 rt2 n (.instanceMethod y2)) (hsel : Cond.selects y2.cls y2 y2 ∈ wsL_law) (hst : st0 = As.reverse ++ .ref (o + a) :: rest) (hn : As.length = n) (hcat : (rest.map fun v => v.category).sum ≤ 8) (hlen : (lg_sl (mm_S (zz_K l D aa b0) (.ref (o + a) :: As))).length ≤ nL2) (hdd : d2 + 1 ≤ d ∧ 19 + nL2 + 39 * d2 ≤ 39 * d)
    (hV : mm_V (zz_K l D aa b0) d2 y2 cc2 nL2 rt2 0 (lv_args 0 (.ref (o + a) :: As)) [] h 0 0 (fun r h' => h' = h ∧ r = some v))
    (kk : mm_V (zz_K l D aa b0) d y cc nL rt (pc + 3) L (v :: rest) h kc ks Q) : mm_V (zz_K l D aa b0) d y cc nL rt pc L st0 h kc ks Q :=
  cm_callV hd ha h1 hs hcl hC hsel hst hn hcat hlen hdd hV (fun r h1 hq => by rw [hq.1, hq.2]; exact kk)
theorem cm_callSN {idx n d2 : Nat} {y2 : MethodName} {cc2 : ByteArray} {nL2 : Nat} {rt2 : Option FieldType} {host : String} {As rest : List Value} {st0 : List Value} {v : Value} (hd : decode cc pc = .ok (.invokestatic idx, 3)) (hC : mm_CN (zz_K l D aa b0) y.cls idx y2 cc2 nL2 rt2 n (.static y2) host) (hst : st0 = As.reverse ++ rest) (hn : As.length = n) (hcat : (rest.map fun v => v.category).sum ≤ 8) (hlen : (lg_sl (mm_S (zz_K l D aa b0) As)).length ≤ nL2) (hdd : d2 + 1 ≤ d ∧ 19 + nL2 + 39 * d2 ≤ 39 * d)
    (hV : mm_V (zz_K l D aa b0) d2 y2 cc2 nL2 rt2 0 (lv_args 0 As) [] h 0 0 (fun r h' => h' = h ∧ r = some v))
    (kk : mm_V (zz_K l D aa b0) d y cc nL rt (pc + 3) L (v :: rest) h kc ks Q) : mm_V (zz_K l D aa b0) d y cc nL rt pc L st0 h kc ks Q :=
  mm_callSN hd zz_G hC hst hn hcat hlen hdd hV (Nat.zero_le _) (Nat.zero_le _) (fun r h1 hq => by rw [hq.1, hq.2]; exact kk)
end CMR
