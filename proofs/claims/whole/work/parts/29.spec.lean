/-! one reading as it is taken out: the tasks, the forms told, the values -/
abbrev tk_T : Type := Nat × Nat × Nat × Nat × Nat
/-- tasks (the last pushed first), forms, values -/
abbrev tk_P : Type := List tk_T × List Nat × (Nat → Nat)
def fl_a (sg kind : Nat) : Nat → Nat → Nat
  | 0, f => f
  | n + 1, f => fl_a sg kind n ((if sp_perf sg (kind + n) = true then 3 else 2) * f)
def fl_ (sg kind : Nat) : Nat := fl_a sg kind (6 - kind) 3
theorem fl_b : ∀ sg, sg < 16 → ∀ kind, kind < 7 → fl_ sg kind ≤ 972 ∧ 3 ≤ fl_ sg kind := by decide +kernel
def gd_ (sg : Nat) : Nat := if sp_perf sg 0 = true then 0 else if sp_perf sg 1 = true then 1 else if sp_perf sg 2 = true then 2 else if sp_perf sg 3 = true then 3 else 4
def wt_ (f : Nat) : Nat := if f = 7 ∨ f = 12 then 1 else if f = 8 then 2 else if f = 9 then 3 else 0
def sn_ (fs : List Nat) : Nat := (fs.map wt_).sum
def st_at (A : Nat → Nat → Int32) (stk : List tk_T) : Prop := ∀ (i : Nat) (t : tk_T), stk.reverse[i]? = some t → A 29 i = nI t.1 ∧ A 30 i = nI t.2.1 ∧ A 31 i = nI t.2.2.1 ∧ A 32 i = nI t.2.2.2.1 ∧ A 33 i = nI t.2.2.2.2
def ou_at (A : Nat → Nat → Int32) (r : Nat) (fs : List Nat) (vs : Nat → Nat) : Prop := A 36 r = nI fs.length ∧ A 37 r = nI (sn_ fs) ∧ (∀ (i f : Nat), fs[i]? = some f → A 35 (120 * r + i) = nI f) ∧ ∀ i : Nat, i < 24 → A 38 (24 * r + i) = nI (vs i)
def ps_at (F : Nat → Int32) (A : Nat → Nat → Int32) (r : Nat) (P : tk_P) : Prop := (F 41 = nI r ∧ r < 1000) ∧ F 34 = nI P.1.length ∧ st_at A P.1 ∧ ou_at A r P.2.1 P.2.2
/-- what stays -/
def tk_F (F F' : Nat → Int32) : Prop := ∀ j : Nat, (j < 21 ∨ 28 < j) → j ≠ 34 → F' j = F j
def tk_A (r : Nat) (A A' : Nat → Nat → Int32) : Prop := (∀ j : Nat, (j < 29 ∨ 38 < j ∨ j = 34) → A' j = A j) ∧ (∀ i : Nat, (i < 120 * r ∨ 120 * r + 120 ≤ i) → A' 35 i = A 35 i) ∧ (∀ i : Nat, i ≠ r → A' 36 i = A 36 i ∧ A' 37 i = A 37 i) ∧ ∀ i : Nat, (i < 24 * r ∨ 24 * r + 24 ≤ i) → A' 38 i = A 38 i
theorem tk_F.rf {F : Nat → Int32} : tk_F F F := fun _ _ _ => rfl
theorem tk_F.tr {F F1 F2 : Nat → Int32} (a : tk_F F F1) (b : tk_F F1 F2) : tk_F F F2 := fun j h1 h2 => (b j h1 h2).trans (a j h1 h2)
theorem tk_F.sc {F F1 : Nat → Int32} (a : sc_F F F1) : tk_F F F1 := fun j h1 _ => a j h1
theorem tk_A.rf {r : Nat} {A : Nat → Nat → Int32} : tk_A r A A := ⟨fun _ _ => rfl, fun _ _ => rfl, fun _ _ => ⟨rfl, rfl⟩, fun _ _ => rfl⟩
theorem tk_A.tr {r : Nat} {A A1 A2 : Nat → Nat → Int32} (a : tk_A r A A1) (b : tk_A r A1 A2) : tk_A r A A2 := ⟨fun j h => (b.1 j h).trans (a.1 j h), fun i h => (b.2.1 i h).trans (a.2.1 i h), fun i h => ⟨(b.2.2.1 i h).1.trans (a.2.2.1 i h).1, (b.2.2.1 i h).2.trans (a.2.2.1 i h).2⟩, fun i h => (b.2.2.2 i h).trans (a.2.2.2 i h)⟩
/-- the whole of it -/
def tk_at (o : Nat) (F : Nat → Int32) (G : Nat → Int64) (A : Nat → Nat → Int32) (B : Nat → Nat → Int64) (h : mm_H) (w : ro_w) (sg g : Nat) (T I : Nat → Nat) (r : Nat) (S : sc_S) (P : tk_P) : Prop :=
  rm_at o F G A B h ∧ cx_at F A w sg g T ∧ iw_at A I ∧ sc_at F S ∧ ps_at F A r P
theorem cx_tk {F F1 : Nat → Int32} {A A1 : Nat → Nat → Int32} {w : ro_w} {sg g r : Nat} {T : Nat → Nat} (hF : tk_F F F1) (hA : tk_A r A A1) (h : cx_at F A w sg g T) : cx_at F1 A1 w sg g T := by
  obtain ⟨⟨h1, h2, h3⟩, ⟨h4, h5⟩, ⟨h6, h7⟩, h8, h9⟩ := h
  refine ⟨⟨h1, (hF 15 (by omega) (by omega)).trans h2, ?_⟩, ⟨(hF 12 (by omega) (by omega)).trans h4, h5⟩, ⟨(hF 13 (by omega) (by omega)).trans h6, h7⟩, ?_, h9⟩
  · rw [hA.1 16 (by omega), hA.1 17 (by omega), hA.1 18 (by omega)]
    exact h3
  · unfold tb_at
    rw [hA.1 19 (by omega)]
    exact h8
theorem iw_tk {A A1 : Nat → Nat → Int32} {r : Nat} {I : Nat → Nat} (hA : tk_A r A A1) (h : iw_at A I) : iw_at A1 I := by
  unfold iw_at
  rw [hA.1 20 (by omega)]
  exact h
theorem sc_tk {F F1 : Nat → Int32} {S : sc_S} (h : ∀ j : Nat, 21 ≤ j → j ≤ 28 → F1 j = F j) (hs : sc_at F S) : sc_at F1 S := by
  unfold sc_at
  rw [h 21 (by omega) (by omega), h 22 (by omega) (by omega), h 23 (by omega) (by omega), h 24 (by omega) (by omega), h 25 (by omega) (by omega), h 26 (by omega) (by omega), h 27 (by omega) (by omega), h 28 (by omega) (by omega)]
  exact hs
theorem ps_sc {F F1 : Nat → Int32} {A : Nat → Nat → Int32} {r : Nat} {P : tk_P} (hF : sc_F F F1) (h : ps_at F A r P) : ps_at F1 A r P := ⟨⟨(hF 41 (by omega)).trans h.1.1, h.1.2⟩, (hF 34 (by omega)).trans h.2.1, h.2.2⟩
theorem tk_sc {o : Nat} {F F1 : Nat → Int32} {G : Nat → Int64} {A : Nat → Nat → Int32} {B : Nat → Nat → Int64} {h h1 : mm_H} {w : ro_w} {sg g : Nat} {T I : Nat → Nat} {r : Nat} {S S1 : sc_S} {P : tk_P} (ht : tk_at o F G A B h w sg g T I r S P) (ha : rm_at o F1 G A B h1) (hs : sc_at F1 S1) (hF : sc_F F F1) : tk_at o F1 G A B h1 w sg g T I r S1 P :=
  ⟨ha, cx_F hF ht.2.1, ht.2.2.1, hs, ps_sc hF ht.2.2.2.2⟩
def op_t (f : Nat) (P : tk_P) : tk_P := (P.1, P.2.1 ++ [f], P.2.2)
def op_l (i v : Nat) (P : tk_P) : tk_P := (P.1, P.2.1, rm_up P.2.2 i v)
def op_p (t : tk_T) (P : tk_P) : tk_P := (t :: P.1, P.2.1, P.2.2)
theorem st_push {A A' : Nat → Nat → Int32} {stk : List tk_T} (hs : st_at A stk) (t : tk_T) (h29 : A' 29 = upd (A 29) stk.length (nI t.1)) (h30 : A' 30 = upd (A 30) stk.length (nI t.2.1)) (h31 : A' 31 = upd (A 31) stk.length (nI t.2.2.1)) (h32 : A' 32 = upd (A 32) stk.length (nI t.2.2.2.1)) (h33 : A' 33 = upd (A 33) stk.length (nI t.2.2.2.2)) : st_at A' (t :: stk) := by
  intro i x hx
  rw [List.reverse_cons] at hx
  rw [h29, h30, h31, h32, h33]
  by_cases hi : i < stk.length
  · rw [List.getElem?_append_left (by rw [List.length_reverse]; exact hi)] at hx
    rw [pk_un (by omega), pk_un (by omega), pk_un (by omega), pk_un (by omega), pk_un (by omega)]
    exact hs i x hx
  · have hl := (List.getElem?_eq_some_iff.mp hx).1
    rw [List.length_append, List.length_reverse] at hl
    have e : i = stk.length := by simp at hl; omega
    subst e
    rw [List.getElem?_append_right (by rw [List.length_reverse]; exact Nat.le_refl _), List.length_reverse, Nat.sub_self] at hx
    cases hx
    rw [pk_us, pk_us, pk_us, pk_us, pk_us]
    exact ⟨rfl, rfl, rfl, rfl, rfl⟩
theorem st_pop {A : Nat → Nat → Int32} {stk : List tk_T} {t : tk_T} (hs : st_at A (t :: stk)) : st_at A stk ∧ (A 29 stk.length = nI t.1 ∧ A 30 stk.length = nI t.2.1 ∧ A 31 stk.length = nI t.2.2.1 ∧ A 32 stk.length = nI t.2.2.2.1 ∧ A 33 stk.length = nI t.2.2.2.2) := by
  constructor
  · intro i x hx
    apply hs i x
    rw [List.reverse_cons, List.getElem?_append_left (List.getElem?_eq_some_iff.mp hx).1]
    exact hx
  · apply hs stk.length t
    rw [List.reverse_cons, List.getElem?_append_right (by rw [List.length_reverse]; exact Nat.le_refl _), List.length_reverse, Nat.sub_self]
    rfl
theorem sn_app (fs : List Nat) (f : Nat) : sn_ (fs ++ [f]) = sn_ fs + wt_ f := by
  unfold sn_
  rw [List.map_append, List.sum_append]
  rfl
