/-! where parts can end -/
def Rm (A : gM) (m : Nat) : Prop := ∃ x, (x, m) ∈ A
def UN (w : ro_w) (sg g k p m : Nat) : Prop := Rm (pU w sg g k p) m
def PA (w : ro_w) (sg g k p m : Nat) : Prop := Rm (pP w sg g k p) m
def TH (w : ro_w) (sg g k p m : Nat) : Prop := Rm (pK w sg g (3, k, 0) p) m
section ENS
variable {w : ro_w} {sg g : Nat}
theorem Rm_nil {m : Nat} : ¬ Rm [] m := fun ⟨_, h⟩ => by cases h
theorem Rm_app {A B : gM} {m : Nat} : Rm (A ++ B) m ↔ Rm A m ∨ Rm B m := by
  unfold Rm
  constructor
  · rintro ⟨x, h⟩
    rcases List.mem_append.mp h with h | h
    · exact Or.inl ⟨x, h⟩
    · exact Or.inr ⟨x, h⟩
  · rintro (⟨x, h⟩ | ⟨x, h⟩)
    · exact ⟨x, List.mem_append_left _ h⟩
    · exact ⟨x, List.mem_append_right _ h⟩
theorem Rm_fm {l : List Nat} {f : Nat → gM} {m : Nat} : Rm (l.flatMap f) m ↔ ∃ c ∈ l, Rm (f c) m := by
  unfold Rm
  constructor
  · rintro ⟨x, h⟩
    rw [List.mem_flatMap] at h
    obtain ⟨c, hc, h⟩ := h
    exact ⟨c, hc, x, h⟩
  · rintro ⟨c, hc, x, h⟩
    exact ⟨x, List.mem_flatMap.mpr ⟨c, hc, h⟩⟩
theorem Rm_map {A : gM} {F : gR → gR} {m : Nat} : Rm (A.map (fun x => (F x.1, x.2))) m ↔ Rm A m := by
  unfold Rm
  constructor
  · rintro ⟨x, h⟩
    rw [List.mem_map] at h
    obtain ⟨⟨y, q⟩, hy, e⟩ := h
    cases e
    exact ⟨y, hy⟩
  · rintro ⟨x, h⟩
    exact ⟨F x, List.mem_map.mpr ⟨(x, m), h, rfl⟩⟩
theorem Rm_gb {A : gM} {f : Nat → gM} {m : Nat} : Rm (gb A f) m ↔ ∃ q, Rm A q ∧ Rm (f q) m := by
  unfold Rm gb
  constructor
  · rintro ⟨x, h⟩
    rw [List.mem_flatMap] at h
    obtain ⟨⟨y, q⟩, hy, h⟩ := h
    rw [List.mem_map] at h
    obtain ⟨⟨z, n⟩, hz, e⟩ := h
    cases e
    exact ⟨q, ⟨y, hy⟩, z, hz⟩
  · rintro ⟨q, ⟨y, hy⟩, z, hz⟩
    exact ⟨gc y z, List.mem_flatMap.mpr ⟨(y, q), hy, List.mem_map.mpr ⟨(z, m), hz, rfl⟩⟩⟩
theorem Rm_one {x : gR} {p m : Nat} : Rm [(x, p)] m ↔ m = p := by
  unfold Rm
  constructor
  · rintro ⟨y, h⟩
    rw [List.mem_singleton] at h
    cases h
    rfl
  · rintro rfl
    exact ⟨x, List.mem_singleton.mpr rfl⟩
theorem Rm_if {b : Bool} {A : gM} {m : Nat} : Rm (if b = true then A else []) m ↔ b = true ∧ Rm A m := by
  cases b
  · exact ⟨fun h => absurd h Rm_nil, fun h => by cases h.1⟩
  · exact ⟨fun h => ⟨rfl, h⟩, fun h => h.2⟩
theorem Rm_dv {p m : Nat} : Rm (pDv w p) m ↔ m = p ∨ (ro_dot w p = true ∧ m = p + 1) := by
  unfold pDv
  have e : ((([], []), p) :: (if ro_dot w p = true then [(([12], [0]), p + 1)] else []) : gM) = [(([], []), p)] ++ (if ro_dot w p = true then [(([12], [0]), p + 1)] else []) := rfl
  rw [e, Rm_app, Rm_one, Rm_if, Rm_one]
/-- a form without the dot that divides -/
def cr_ (w : ro_w) (sg g k f p m : Nat) : Prop := hd_ w sg g k f p = true ∧ Rm (sq_ (pK w sg g) (t0_ sg k f) (p + (iv_ sg k f).length)) m
theorem Rm_cF {k f p m : Nat} : Rm (cF w sg g k f p) m ↔ cr_ w sg g k f p m := by
  unfold cF cr_
  rw [Rm_if, Rm_map]
theorem en_dv {k f p m : Nat} (hp : sp_perf sg k = true) (hf : f ≤ 2 ∨ 6 ≤ f ∧ f ≤ 11) : enE w sg g k f p m ↔ cr_ w sg g k f p m ∨ ∃ q, cr_ w sg g k f p q ∧ ro_dot w q = true ∧ m = q + 1 := by
  show Rm (pF w sg g k f p) m ↔ _
  rw [pF_dv hp hf, Rm_gb]
  constructor
  · rintro ⟨q, h1, h2⟩
    rw [Rm_cF] at h1
    rcases Rm_dv.mp h2 with e | ⟨e1, e2⟩
    · subst e; exact Or.inl h1
    · exact Or.inr ⟨q, h1, e1, e2⟩
  · rintro (h | ⟨q, h1, h2, h3⟩)
    · exact ⟨m, Rm_cF.mpr h, Rm_dv.mpr (Or.inl rfl)⟩
    · exact ⟨q, Rm_cF.mpr h1, Rm_dv.mpr (Or.inr ⟨h2, h3⟩)⟩
theorem en_no {k f p m : Nat} (h : ¬ (f ≤ 2 ∨ 6 ≤ f ∧ f ≤ 11) ∨ sp_perf sg k = false) : enE w sg g k f p m ↔ cr_ w sg g k f p m := by
  show Rm (pF w sg g k f p) m ↔ _
  rw [pF_no h, Rm_cF]
/-! each form -/
theorem cr_1 {k p m : Nat} : cr_ w sg g k 1 p m ↔ ro_plain w p k = true ∧ m = p + 1 := by
  show _ ∧ Rm [(([], []), p + 1)] m ↔ _
  rw [Rm_one]
  exact Iff.rfl
theorem cr_2 {k p m : Nat} : cr_ w sg g k 2 p m ↔ ro_rest w p k = true ∧ m = p + 1 := by
  show _ ∧ Rm [(([], []), p + 1)] m ↔ _
  rw [Rm_one]
  exact Iff.rfl
theorem cr_3 {k p m : Nat} (hp : sp_perf sg k = true) : cr_ w sg g k 3 p m ↔ do_ w p k = true ∧ m = p + 2 := by
  show (sp_perf sg k && (ro_plain w p k && ro_dot w (p + 1))) = true ∧ Rm [(([], []), p + 2)] m ↔ _
  rw [Rm_one, hp, Bool.true_and]
  exact Iff.rfl
theorem cr_4 {k p m : Nat} (hp : sp_perf sg k = false) (hk : k < 6) : cr_ w sg g k 4 p m ↔ ∃ q, UN w sg g (k + 1) p q ∧ UN w sg g (k + 1) q m := by
  show (!(sp_perf sg k) && decide (k < 6)) = true ∧ Rm (sq_ (pK w sg g) [(1, k + 1, 0), (1, k + 1, 0)] p) m ↔ _
  rw [sq_two, Rm_gb, hp, decide_eq_true hk]
  exact ⟨fun h => h.2, fun h => ⟨rfl, h⟩⟩
theorem cr_5 {k p m : Nat} (hp : sp_perf sg k = false) (hk : k < 6) : cr_ w sg g k 5 p m ↔ PA w sg g (k + 1) p m := by
  show (!(sp_perf sg k) && decide (k < 6)) = true ∧ Rm (sq_ (pK w sg g) [(2, k + 1, 0)] p) m ↔ _
  rw [sq_one, hp, decide_eq_true hk]
  exact ⟨fun h => h.2, fun h => ⟨rfl, h⟩⟩
theorem cr_6 {k p m : Nat} (hp : sp_perf sg k = true) : cr_ w sg g k 6 p m ↔ ∃ q, UN w sg g (k + 1) p q ∧ ∃ n, UN w sg g (k + 1) q n ∧ UN w sg g (k + 1) n m := by
  show sp_perf sg k = true ∧ Rm (sq_ (pK w sg g) [(1, k + 1, 0), (1, k + 1, 0), (1, k + 1, 0)] p) m ↔ _
  rw [sq_three, Rm_gb]
  constructor
  · rintro ⟨-, q, h1, h2⟩
    exact ⟨q, h1, Rm_gb.mp h2⟩
  · rintro ⟨q, h1, h2⟩
    exact ⟨hp, q, h1, Rm_gb.mpr h2⟩
theorem cr_7 {k p m : Nat} (hp : sp_perf sg k = true) : cr_ w sg g k 7 p m ↔ ro_plain w p k = true ∧ UN w sg g (k + 1) (p + 1) m := by
  show (sp_perf sg k && ro_plain w p k) = true ∧ Rm (sq_ (pK w sg g) [(1, k + 1, 0)] (p + 1)) m ↔ _
  rw [sq_one, hp, Bool.true_and]
  exact Iff.rfl
theorem cr_8 {k p m : Nat} (hp : sp_perf sg k = true) : cr_ w sg g k 8 p m ↔ ∃ q, UN w sg g (k + 1) p q ∧ al_ w q (k + 1) = true ∧ m = q + 1 := by
  show sp_perf sg k = true ∧ Rm (sq_ (pK w sg g) [(1, k + 1, 0), (4, k + 1, 2 * fl_ sg (k + 1))] p) m ↔ _
  rw [sq_two, Rm_gb]
  have e : ∀ q, Rm (pK w sg g (4, k + 1, 2 * fl_ sg (k + 1)) q) m ↔ al_ w q (k + 1) = true ∧ m = q + 1 := fun q => by
    show Rm (if al_ w q (k + 1) = true then [(([], [2 * fl_ sg (k + 1)]), q + 1)] else []) m ↔ _
    rw [Rm_if, Rm_one]
  constructor
  · rintro ⟨-, q, h1, h2⟩
    exact ⟨q, h1, (e q).mp h2⟩
  · rintro ⟨q, h1, h2⟩
    exact ⟨hp, q, h1, (e q).mpr h2⟩
theorem cr_9 {k p m : Nat} (hp : sp_perf sg k = true) : cr_ w sg g k 9 p m ↔ ∃ q, UN w sg g (k + 1) p q ∧ li_ w q k = true ∧ m = q + 1 := by
  show sp_perf sg k = true ∧ Rm (sq_ (pK w sg g) [(1, k + 1, 0), (7, k, 2 * fl_ sg (k + 1))] p) m ↔ _
  rw [sq_two, Rm_gb]
  have e : ∀ q, Rm (pK w sg g (7, k, 2 * fl_ sg (k + 1)) q) m ↔ li_ w q k = true ∧ m = q + 1 := fun q => by
    show Rm (if li_ w q k = true then [(([], [2 * fl_ sg (k + 1)]), q + 1)] else []) m ↔ _
    rw [Rm_if, Rm_one]
  constructor
  · rintro ⟨-, q, h1, h2⟩
    exact ⟨q, h1, (e q).mp h2⟩
  · rintro ⟨q, h1, h2⟩
    exact ⟨hp, q, h1, (e q).mpr h2⟩
theorem cr_10 {k p m : Nat} (hp : sp_perf sg k = true) : cr_ w sg g k 10 p m ↔ ∃ q, UN w sg g (k + 1) p q ∧ PA w sg g (k + 1) q m := by
  show sp_perf sg k = true ∧ Rm (sq_ (pK w sg g) [(1, k + 1, 0), (2, k + 1, 0)] p) m ↔ _
  rw [sq_two, Rm_gb]
  exact ⟨fun h => h.2, fun h => ⟨hp, h⟩⟩
theorem cr_11 {k p m : Nat} (hp : sp_perf sg k = true) : cr_ w sg g k 11 p m ↔ ∃ q, PA w sg g (k + 1) p q ∧ UN w sg g (k + 1) q m := by
  show sp_perf sg k = true ∧ Rm (sq_ (pK w sg g) [(2, k + 1, 0), (1, k + 1, 0)] p) m ↔ _
  rw [sq_two, Rm_gb]
  exact ⟨fun h => h.2, fun h => ⟨hp, h⟩⟩
theorem cr_13 {k p m : Nat} (hp : sp_perf sg k = false) (hk : k < 6) : cr_ w sg g k 13 p m ↔ do_ w p k = true ∧ UN w sg g (k + 1) (p + 2) m := by
  show ((!(sp_perf sg k) && decide (k < 6)) && (ro_plain w p k && ro_dot w (p + 1))) = true ∧ Rm (sq_ (pK w sg g) [(1, k + 1, 0)] (p + 2)) m ↔ _
  rw [sq_one, hp, decide_eq_true hk]
  exact Iff.rfl
theorem cr_14 {k p m : Nat} (hp : sp_perf sg k = false) (hk : k < 6) : cr_ w sg g k 14 p m ↔ ∃ q, UN w sg g (k + 1) p q ∧ do_ w q k = true ∧ m = q + 2 := by
  show (!(sp_perf sg k) && decide (k < 6)) = true ∧ Rm (sq_ (pK w sg g) [(1, k + 1, 0), (5, k, 3 * fl_ sg (k + 1))] p) m ↔ _
  rw [sq_two, Rm_gb, hp, decide_eq_true hk]
  have e : ∀ q, Rm (pK w sg g (5, k, 3 * fl_ sg (k + 1)) q) m ↔ do_ w q k = true ∧ m = q + 2 := fun q => by
    show Rm (if do_ w q k = true then [(([], [3 * fl_ sg (k + 1), 0]), q + 2)] else []) m ↔ _
    rw [Rm_if, Rm_one]
  constructor
  · rintro ⟨-, q, h1, h2⟩
    exact ⟨q, h1, (e q).mp h2⟩
  · rintro ⟨q, h1, h2⟩
    exact ⟨rfl, q, h1, (e q).mpr h2⟩
theorem cr_15 {k p m : Nat} : cr_ w sg g k 15 p m ↔ ∃ q, TH w sg g k p q ∧ ∃ n, TH w sg g k q n ∧ TH w sg g k n m := by
  show true = true ∧ Rm (sq_ (pK w sg g) [(3, k, 0), (3, k, 0), (3, k, 0)] p) m ↔ _
  rw [sq_three, Rm_gb]
  constructor
  · rintro ⟨-, q, h1, h2⟩
    exact ⟨q, h1, Rm_gb.mp h2⟩
  · rintro ⟨q, h1, h2⟩
    exact ⟨rfl, q, h1, Rm_gb.mpr h2⟩
theorem cr_16 {k p m : Nat} : cr_ w sg g k 16 p m ↔ ro_dyed w p k = true ∧ m = p + 1 := by
  show _ ∧ Rm [(([], []), p + 1)] m ↔ _
  rw [Rm_one]
  exact Iff.rfl
theorem cr_17 {k p m : Nat} : cr_ w sg g k 17 p m ↔ (k < 6 ∧ ro_dyed w p (k + 1) = true ∧ ro_dyed w (p + 1) (k + 1) = true) ∧ m = p + 2 := by
  show (decide (k < 6) && (ro_dyed w p (k + 1) && ro_dyed w (p + 1) (k + 1))) = true ∧ Rm [(([], []), p + 2)] m ↔ _
  rw [Rm_one, Bool.and_eq_true, Bool.and_eq_true, decide_eq_true_iff]
theorem cr_18 {k p m : Nat} (hk : k < g) : cr_ w sg g k 18 p m ↔ do_ w p k = true ∧ m = p + 2 := by
  show (decide (k < g) && (ro_plain w p k && ro_dot w (p + 1))) = true ∧ Rm [(([], []), p + 2)] m ↔ _
  rw [Rm_one, decide_eq_true hk, Bool.true_and]
  exact Iff.rfl
theorem un_en {k p m : Nat} (hk : k ≤ 6) : UN w sg g k p m ↔ ∃ f ∈ fs_ 1, enE w sg g k f p m := by
  unfold UN
  rw [pU_eq hk, Rm_fm]
  exact Iff.rfl
theorem pa_en {k p m : Nat} (hk : k ≤ 6) : PA w sg g k p m ↔ ∃ f ∈ fs_ 2, enE w sg g k f p m := by
  unfold PA
  rw [pP_eq hk, Rm_fm]
  exact Iff.rfl
theorem th_en {k p m : Nat} : TH w sg g k p m ↔ ∃ f ∈ fs_ 3, enE w sg g k f p m := by
  show Rm (pT1 w sg k 16 p ++ pT1 w sg k 17 p) m ↔ _
  have one : ∀ f, f = 16 ∨ f = 17 → (Rm (pT1 w sg k f p) m ↔ enE w sg g k f p m) := by
    intro f hf
    rw [en_no (Or.inl (by omega))]
    have e1 : hd_ w sg 0 k f p = hd_ w sg g k f p := by rcases hf with rfl | rfl <;> rfl
    have e2 : t0_ sg k f = [] := by rcases hf with rfl | rfl <;> rfl
    unfold pT1 cr_
    rw [Rm_if, e1, e2, Rm_one]
    exact ⟨fun h => ⟨h.1, by show Rm [(([], []), _)] m; rw [Rm_one]; exact h.2⟩, fun h => ⟨h.1, by have h2 : Rm [(([], []), _)] m := h.2; rw [Rm_one] at h2; exact h2⟩⟩
  rw [Rm_app, one 16 (Or.inl rfl), one 17 (Or.inr rfl)]
  constructor
  · rintro (h | h)
    · exact ⟨16, by decide, h⟩
    · exact ⟨17, by decide, h⟩
  · rintro ⟨f, hf, h⟩
    simp only [fs_, Nat.reduceEqDiff, if_false, List.mem_cons, List.not_mem_nil, or_false] at hf
    rcases hf with rfl | rfl
    · exact Or.inl h
    · exact Or.inr h
theorem en_lt {k f p m : Nat} (h : enE w sg g k f p m) : p < m ∧ m ≤ w.1 := by
  obtain ⟨x, hx⟩ := h
  have := eS_FF k f p _ hx
  exact ⟨this.1, this.2.1⟩
theorem un_lt {k p m : Nat} (h : UN w sg g k p m) : p < m ∧ m ≤ w.1 := by
  obtain ⟨x, hx⟩ := h
  have := eS_U k p _ hx
  exact ⟨this.1, this.2.1⟩
theorem pa_lt {k p m : Nat} (h : PA w sg g k p m) : p < m ∧ m ≤ w.1 := by
  obtain ⟨x, hx⟩ := h
  have := eS_P k p _ hx
  exact ⟨this.1, this.2.1⟩
theorem th_lt {k p m : Nat} (h : TH w sg g k p m) : p < m ∧ m ≤ w.1 := by
  obtain ⟨x, hx⟩ := h
  have := eS_t3 _ hx
  exact ⟨this.1, this.2.1⟩
/-- items -/
def IT (w : ro_w) (sg g p m : Nat) : Prop := Rm (its w sg g p) m
theorem lv_row {p : Nat} (hp : p < w.1) : lvE w sg g [] p ↔ ∃ m, IT w sg g p m ∧ lvE w sg g [] m := by
  have e : ∀ q, lvE w sg g [] q ↔ pR w sg g q ≠ [] := fun q => by unfold lvE; rw [gE_nil]
  rw [e, pR_eq hp, gk_ne]
  constructor
  · rintro ⟨x, hx, h⟩
    exact ⟨x.2, ⟨x.1, hx⟩, (e _).mpr h⟩
  · rintro ⟨m, ⟨x, hx⟩, h⟩
    exact ⟨(x, m), hx, (e _).mp h⟩
theorem lv_end {p : Nat} (hp : w.1 ≤ p) : lvE w sg g [] p := by
  unfold lvE
  rw [gE_nil, pR_end hp]
  exact fun h => by cases h
theorem it_en {p m : Nat} : IT w sg g p m ↔ ∃ ch k f, 1 ≤ ch ∧ ch ≤ 18 ∧ kf_ w g [] p ch = some (k, f) ∧ enE w sg g k f p m := by
  unfold IT its
  rw [Rm_fm]
  constructor
  · rintro ⟨ch, hc, h⟩
    rw [List.mem_range'_1] at hc
    unfold pI at h
    cases hi : ic_ w g ch p with
    | none => rw [hi] at h; exact absurd h Rm_nil
    | some k =>
      rw [hi] at h
      exact ⟨ch, k, if_ ch, hc.1, by omega, by show (ic_ w g ch p).map _ = _; rw [hi]; rfl, h⟩
  · rintro ⟨ch, k, f, h1, h2, h3, h4⟩
    refine ⟨ch, by rw [List.mem_range'_1]; omega, ?_⟩
    have h3 : (ic_ w g ch p).map (fun k => (k, if_ ch)) = some (k, f) := h3
    unfold pI
    cases hi : ic_ w g ch p with
    | none => rw [hi] at h3; cases h3
    | some k' =>
      rw [hi] at h3
      cases h3
      exact h4
end ENS
