/-! both lists hold the same readings -/
section LNK
variable {w : ro_w} {sg g : Nat} {T I : Nat → Nat}
theorem plain_lt {p k : Nat} (h : ro_plain w p k = true) : p < w.1 := by unfold ro_plain at h; simp at h; exact h.1
theorem dyed_lt {p k : Nat} (h : ro_dyed w p k = true) : p < w.1 := by unfold ro_dyed at h; simp at h; exact h.1
theorem rest_lt {p k : Nat} (h : ro_rest w p k = true) : p < w.1 := by unfold ro_rest at h; simp at h; exact h.1
theorem dot_lt {p : Nat} (h : ro_dot w p = true) : p < w.1 := by unfold ro_dot at h; simp at h; exact h.1
def cF (w : ro_w) (sg g k f p : Nat) : gM := if hd_ w sg g k f p = true then (sq_ (pK w sg g) (t0_ sg k f) (p + (iv_ sg k f).length)).map (fun x => (gc ([f], iv_ sg k f) x.1, x.2)) else []
theorem gb_map (A : gM) (y : gR) (f : Nat → gM) : gb (A.map (fun x => (gc y x.1, x.2))) f = (gb A f).map (fun x => (gc y x.1, x.2)) := by
  unfold gb
  rw [List.flatMap_map, List.map_flatMap]
  apply fm_congr
  intro x _
  rw [List.map_map]
  apply List.map_congr_left
  intro z _
  simp only [Function.comp, gc_assoc]
theorem gb_un (A : gM) : gb A (fun p => [(([], []), p)]) = A := by
  unfold gb
  induction A with
  | nil => rfl
  | cons x A ih =>
    rw [List.flatMap_cons, ih]
    show (gc x.1 ([], []), x.2) :: A = _
    rw [gc_nil]
theorem sq_one (pk : gK → Nat → gM) (t : gK) (p : Nat) : sq_ pk [t] p = pk t p := gb_un (pk t p)
theorem sq_one' (pk : gK → Nat → gM) (t : gK) : sq_ pk [t] = pk t := funext (sq_one pk t)
theorem pF_dv {k f p : Nat} (hp : sp_perf sg k = true) (hf : f ≤ 2 ∨ 6 ≤ f ∧ f ≤ 11) : pF w sg g k f p = gb (cF w sg g k f p) (pDv w) := by
  unfold pF pFx cF
  by_cases hh : hd_ w sg g k f p = true
  · rw [if_pos hh, if_pos hh, gb_map]
    unfold ts_
    rw [if_pos hf]
    unfold dv_
    rw [if_pos hp, sq_app, sq_one']
    rfl
  · rw [if_neg hh, if_neg hh]; rfl
theorem pF_no {k f p : Nat} (h : ¬ (f ≤ 2 ∨ 6 ≤ f ∧ f ≤ 11) ∨ sp_perf sg k = false) : pF w sg g k f p = cF w sg g k f p := by
  have e : ts_ sg k f = t0_ sg k f := by
    unfold ts_
    rcases h with h | h
    · rw [if_neg h, List.append_nil]
    · unfold dv_
      rw [h]
      by_cases hf : f ≤ 2 ∨ 6 ≤ f ∧ f ≤ 11
      · rw [if_pos hf, if_neg (fun z => Bool.noConfusion z), List.append_nil]
      · rw [if_neg hf, List.append_nil]
  unfold pF pFx cF
  rw [e]
/-- ends: within the row; the values are as many as the places -/
def eK (w : ro_w) (A : gM) (p : Nat) : Prop := ∀ x ∈ A, p ≤ x.2 ∧ x.2 ≤ w.1 ∧ x.1.2.length + p = x.2
def eS (w : ro_w) (A : gM) (p : Nat) : Prop := ∀ x ∈ A, p < x.2 ∧ x.2 ≤ w.1 ∧ x.1.2.length + p = x.2
theorem eS.k {A : gM} {p : Nat} (h : eS w A p) : eK w A p := fun x hx => ⟨Nat.le_of_lt (h x hx).1, (h x hx).2⟩
theorem eK_gb {A : gM} {f : Nat → gM} {p : Nat} (hA : eK w A p) (hf : ∀ m, m ≤ w.1 → eK w (f m) m) : eK w (gb A f) p := by
  intro x hx
  unfold gb at hx
  rw [List.mem_flatMap] at hx
  obtain ⟨y, hy, hx⟩ := hx
  rw [List.mem_map] at hx
  obtain ⟨z, hz, rfl⟩ := hx
  obtain ⟨a1, a2, a3⟩ := hA y hy
  obtain ⟨b1, b2, b3⟩ := hf y.2 a2 z hz
  refine ⟨by show p ≤ z.2; omega, b2, ?_⟩
  show (y.1.2 ++ z.1.2).length + p = z.2
  rw [List.length_append]
  omega
theorem eS_gb {A : gM} {f : Nat → gM} {p : Nat} (hA : eS w A p) (hf : ∀ m, m ≤ w.1 → eK w (f m) m) : eS w (gb A f) p := by
  intro x hx
  have h1 := eK_gb hA.k hf x hx
  unfold gb at hx
  rw [List.mem_flatMap] at hx
  obtain ⟨y, hy, hx⟩ := hx
  rw [List.mem_map] at hx
  obtain ⟨z, hz, rfl⟩ := hx
  have a1 := (hA y hy).1
  have a2 := (hA y hy).2.1
  have b1 := (hf y.2 a2 z hz).1
  exact ⟨by show p < z.2; omega, h1.2⟩
theorem eK_one {p : Nat} (hp : p ≤ w.1) : eK w [(([], []), p)] p := by
  intro x hx
  rw [List.mem_singleton] at hx
  subst hx
  exact ⟨Nat.le_refl _, hp, by simp⟩
theorem eK_dv {p : Nat} (hp : p ≤ w.1) : eK w (pDv w p) p := by
  intro x hx
  unfold pDv at hx
  rcases List.mem_cons.mp hx with h | h
  · subst h; exact ⟨Nat.le_refl _, hp, by simp⟩
  · split at h
    · next hd =>
      rw [List.mem_singleton] at h
      subst h
      have := dot_lt hd
      exact ⟨by show p ≤ p + 1; omega, by show p + 1 ≤ w.1; omega, by show 1 + p = p + 1; omega⟩
    · cases h
theorem hd_len {k f p : Nat} (h : hd_ w sg g k f p = true) : iv_ sg k f = [] ∨ ((iv_ sg k f).length ≠ 0 ∧ p + (iv_ sg k f).length ≤ w.1) := by
  have pl : ∀ {q k}, ro_plain w q k = true → q < w.1 := plain_lt
  by_cases c1 : f = 1
  · subst c1; have := plain_lt (show ro_plain w p k = true from h); exact Or.inr ⟨show (1 : Nat) ≠ 0 by decide, this⟩
  by_cases c2 : f = 2
  · subst c2; have := rest_lt (show ro_rest w p k = true from h); exact Or.inr ⟨show (1 : Nat) ≠ 0 by decide, this⟩
  by_cases c3 : f = 3
  · subst c3
    have h2 : (sp_perf sg k && (ro_plain w p k && ro_dot w (p + 1))) = true := h
    simp at h2
    have := dot_lt h2.2.2
    exact Or.inr ⟨show (2 : Nat) ≠ 0 by decide, by show p + 2 ≤ w.1; omega⟩
  by_cases c7 : f = 7
  · subst c7
    have h2 : (sp_perf sg k && ro_plain w p k) = true := h
    simp at h2
    have := plain_lt h2.2
    exact Or.inr ⟨show (1 : Nat) ≠ 0 by decide, this⟩
  by_cases c13 : f = 13
  · subst c13
    have h2 : ((!(sp_perf sg k) && decide (k < 6)) && (ro_plain w p k && ro_dot w (p + 1))) = true := h
    simp at h2
    have := dot_lt h2.2.2
    exact Or.inr ⟨show (2 : Nat) ≠ 0 by decide, by show p + 2 ≤ w.1; omega⟩
  by_cases c16 : f = 16
  · subst c16; have := dyed_lt (show ro_dyed w p k = true from h); exact Or.inr ⟨show (1 : Nat) ≠ 0 by decide, this⟩
  by_cases c17 : f = 17
  · subst c17
    have h2 : (decide (k < 6) && (ro_dyed w p (k + 1) && ro_dyed w (p + 1) (k + 1))) = true := h
    simp at h2
    have := dyed_lt h2.2.2
    exact Or.inr ⟨show (2 : Nat) ≠ 0 by decide, by show p + 2 ≤ w.1; omega⟩
  by_cases c18 : f = 18
  · subst c18
    have h2 : (decide (k < g) && (ro_plain w p k && ro_dot w (p + 1))) = true := h
    simp at h2
    have := dot_lt h2.2.2
    exact Or.inr ⟨show (2 : Nat) ≠ 0 by decide, by show p + 2 ≤ w.1; omega⟩
  · exact Or.inl (by unfold iv_; rw [if_neg (by omega), if_neg c3, if_neg c7, if_neg c13, if_neg c16, if_neg c17, if_neg c18])
theorem eS_t1 {k f p : Nat} (hf : f = 16 ∨ f = 17) : eS w (pT1 w sg k f p) p := by
  intro x hx
  unfold pT1 at hx
  split at hx
  · next hh =>
    rw [List.mem_singleton] at hx
    subst hx
    rcases hd_len hh with h | ⟨h, h2⟩
    · rcases hf with e | e <;> (rw [e] at h; cases h)
    · exact ⟨by show p < p + _; omega, h2, by show (iv_ sg k f).length + p = p + (iv_ sg k f).length; omega⟩
  · cases hx
theorem eS_map {A : gM} {p : Nat} {f : Nat} (h : eS w A p) : eS w (A.map (fun x => (gc ([f], []) x.1, x.2))) p := by
  intro x hx
  rw [List.mem_map] at hx
  obtain ⟨y, hy, rfl⟩ := hx
  exact h y hy
/-- the tasks' ends, if units' and pairs' are -/
theorem eK_K {t : gK} {p : Nat} (hu : ∀ p, eS w (pU w sg g t.2.1 p) p) (hp : ∀ p, eS w (pP w sg g t.2.1 p) p) (hpw : p ≤ w.1) : eK w (pK w sg g t p) p := by
  unfold pK pKx
  by_cases c1 : t.1 = 1
  · rw [if_pos c1]; exact (hu p).k
  rw [if_neg c1]
  by_cases c2 : t.1 = 2
  · rw [if_pos c2]; exact (hp p).k
  rw [if_neg c2]
  by_cases c3 : t.1 = 3
  · rw [if_pos c3]
    intro x hx
    rcases List.mem_append.mp hx with h | h
    · exact (eS_t1 (Or.inl rfl)).k x h
    · exact (eS_t1 (Or.inr rfl)).k x h
  rw [if_neg c3]
  have one : ∀ {b : Bool} {v : Nat}, (b = true → p < w.1) → eK w (if b = true then [(([], [v]), p + 1)] else []) p := by
    intro b v hb x hx
    split at hx
    · next hh =>
      have := hb hh
      rw [List.mem_singleton] at hx; subst hx
      exact ⟨by show p ≤ p + 1; omega, by show p + 1 ≤ w.1; omega, by show 1 + p = p + 1; omega⟩
    · cases hx
  by_cases c4 : t.1 = 4
  · rw [if_pos c4]
    exact one (fun h => by unfold al_ at h; simp at h; exact plain_lt h.1)
  rw [if_neg c4]
  by_cases c7 : t.1 = 7
  · rw [if_pos c7]
    exact one (fun h => by unfold li_ at h; simp at h; exact plain_lt h.1)
  rw [if_neg c7]
  by_cases c5 : t.1 = 5
  · rw [if_pos c5]
    intro x hx
    split at hx
    · next hh =>
      unfold do_ at hh
      simp at hh
      have := dot_lt hh.2
      rw [List.mem_singleton] at hx; subst hx
      exact ⟨by show p ≤ p + 2; omega, by show p + 2 ≤ w.1; omega, by show 2 + p = p + 2; omega⟩
    · cases hx
  rw [if_neg c5]
  by_cases c6 : t.1 = 6
  · rw [if_pos c6]; exact eK_dv hpw
  rw [if_neg c6]
  intro x hx
  cases hx
theorem eK_sq : ∀ (ts : List gK) (p : Nat), (∀ t ∈ ts, ∀ p, p ≤ w.1 → eK w (pK w sg g t p) p) → p ≤ w.1 → eK w (sq_ (pK w sg g) ts p) p
  | [], p, _, hp => eK_one hp
  | t :: ts, p, h, hp => eK_gb (h t List.mem_cons_self p hp) (fun m hm => eK_sq ts m (fun x hx => h x (List.mem_cons_of_mem _ hx)) hm)
/-- forms without values at once begin with a unit, a pair or a third -/
theorem ts_head {k f : Nat} (hf : iv_ sg k f = []) {p : Nat} (hh : hd_ w sg g k f p = true) : ∃ t ts, ts_ sg k f = t :: ts ∧ (t.1 = 1 ∨ t.1 = 2 ∨ t.1 = 3) := by
  have no : ∀ {x y : Nat} {l : List Nat}, x :: l = [] → False := by intro _ _ _ h; cases h
  by_cases c4 : f = 4
  · subst c4; exact ⟨_, _, rfl, Or.inl rfl⟩
  by_cases c5 : f = 5
  · subst c5; exact ⟨_, _, rfl, Or.inr (Or.inl rfl)⟩
  by_cases c6 : f = 6
  · subst c6; exact ⟨_, _, rfl, Or.inl rfl⟩
  by_cases c8 : f = 8
  · subst c8; exact ⟨_, _, rfl, Or.inl rfl⟩
  by_cases c9 : f = 9
  · subst c9; exact ⟨_, _, rfl, Or.inl rfl⟩
  by_cases c10 : f = 10
  · subst c10; exact ⟨_, _, rfl, Or.inl rfl⟩
  by_cases c11 : f = 11
  · subst c11; exact ⟨_, _, rfl, Or.inr (Or.inl rfl)⟩
  by_cases c14 : f = 14
  · subst c14; exact ⟨_, _, rfl, Or.inl rfl⟩
  by_cases c15 : f = 15
  · subst c15; exact ⟨_, _, rfl, Or.inr (Or.inr rfl)⟩
  exfalso
  by_cases c1 : f = 1
  · subst c1; cases hf
  by_cases c2 : f = 2
  · subst c2; cases hf
  by_cases c3 : f = 3
  · subst c3; cases hf
  by_cases c7 : f = 7
  · subst c7; cases hf
  by_cases c13 : f = 13
  · subst c13; cases hf
  by_cases c16 : f = 16
  · subst c16; cases hf
  by_cases c17 : f = 17
  · subst c17; cases hf
  by_cases c18 : f = 18
  · subst c18; cases hf
  unfold hd_ at hh
  rw [if_neg c1, if_neg c2, if_neg c3, if_neg (by omega), if_neg (by omega), if_neg c7, if_neg c13, if_neg c15, if_neg c16, if_neg c17, if_neg c18] at hh
  cases hh
theorem eS_F {k f p : Nat} (hu : ∀ p, eS w (pU w sg g (k + 1) p) p) (hp : ∀ p, eS w (pP w sg g (k + 1) p) p) : eS w (pF w sg g k f p) p := by
  have hK : ∀ t ∈ ts_ sg k f, ∀ p, p ≤ w.1 → eK w (pK w sg g t p) p := by
    intro t ht p hpw
    by_cases h12 : t.1 = 1 ∨ t.1 = 2
    · have e := ts_kinds t ht h12
      exact eK_K (by rw [e]; exact hu) (by rw [e]; exact hp) hpw
    · unfold pK pKx
      have h1 : ¬ t.1 = 1 := fun z => h12 (Or.inl z)
      have h2 : ¬ t.1 = 2 := fun z => h12 (Or.inr z)
      have := eK_K (w := w) (sg := sg) (g := g) (t := (t.1, k + 1, t.2.2)) hu hp hpw
      have q := eK_K (w := w) (sg := sg) (g := g) (t := t) (p := p)
      have hu7 : True := trivial
      rw [if_neg h1, if_neg h2]
      have key : ∀ (a b : Nat → gM), pKx w sg a b t p = pKx w sg (fun _ => []) (fun _ => []) t p := by
        intro a b
        unfold pKx
        rw [if_neg h1, if_neg h2, if_neg h1, if_neg h2]
      have hz : eK w (pKx w sg (fun _ => []) (fun _ => []) t p) p := by
        by_cases c3 : t.1 = 3
        · intro x hx
          unfold pKx at hx
          rw [if_neg h1, if_neg h2, if_pos c3] at hx
          rcases List.mem_append.mp hx with h | h
          · exact (eS_t1 (Or.inl rfl)).k x h
          · exact (eS_t1 (Or.inr rfl)).k x h
        · have e7 : pKx w sg (fun _ => []) (fun _ => []) t p = pK w sg g (t.1, t.2.1 + 7, t.2.2) p ∨ True := Or.inr trivial
          intro x hx
          unfold pKx at hx
          rw [if_neg h1, if_neg h2, if_neg c3] at hx
          split at hx
          · split at hx
            · next hh =>
              unfold al_ at hh; simp at hh
              have := plain_lt hh.1
              rw [List.mem_singleton] at hx; subst hx
              exact ⟨by show p ≤ p + 1; omega, by show p + 1 ≤ w.1; omega, by show 1 + p = p + 1; omega⟩
            · cases hx
          · split at hx
            · split at hx
              · next hh =>
                unfold li_ at hh; simp at hh
                have := plain_lt hh.1
                rw [List.mem_singleton] at hx; subst hx
                exact ⟨by show p ≤ p + 1; omega, by show p + 1 ≤ w.1; omega, by show 1 + p = p + 1; omega⟩
              · cases hx
            · split at hx
              · split at hx
                · next hh =>
                  unfold do_ at hh; simp at hh
                  have := dot_lt hh.2
                  rw [List.mem_singleton] at hx; subst hx
                  exact ⟨by show p ≤ p + 2; omega, by show p + 2 ≤ w.1; omega, by show 2 + p = p + 2; omega⟩
                · cases hx
              · split at hx
                · exact eK_dv hpw x hx
                · cases hx
      have := key (pU w sg g t.2.1) (pP w sg g t.2.1)
      unfold pKx at this hz
      rw [if_neg h1, if_neg h2, if_neg h1, if_neg h2] at this
      rw [if_neg h1, if_neg h2] at hz
      exact hz
  unfold pF pFx
  by_cases hh : hd_ w sg g k f p = true
  · rw [if_pos hh]
    rcases hd_len hh with h0 | ⟨h0, h1⟩
    · obtain ⟨t, ts, e, ht⟩ := ts_head h0 hh
      rw [h0, e]
      have hs : eS w (sq_ (pK w sg g) (t :: ts) p) p := by
        refine eS_gb ?_ (fun m hm => eK_sq ts m (fun x hx => hK x (by rw [e]; exact List.mem_cons_of_mem _ hx)) hm)
        have hk := ts_kinds (sg := sg) (k := k) (f := f) t (by rw [e]; exact List.mem_cons_self)
        unfold pK pKx
        rcases ht with h | h | h
        · rw [if_pos h, hk (Or.inl h)]; exact hu p
        · rw [if_neg (by omega), if_pos h, hk (Or.inr h)]; exact hp p
        · rw [if_neg (by omega), if_neg (by omega), if_pos h]
          intro x hx
          rcases List.mem_append.mp hx with z | z
          · exact eS_t1 (Or.inl rfl) x z
          · exact eS_t1 (Or.inr rfl) x z
      exact eS_map hs
    · have hs := eK_sq (ts_ sg k f) (p + (iv_ sg k f).length) hK h1
      intro x hx
      rw [List.mem_map] at hx
      obtain ⟨y, hy, rfl⟩ := hx
      obtain ⟨a1, a2, a3⟩ := hs y hy
      refine ⟨by show p < y.2; omega, a2, ?_⟩
      show (iv_ sg k f ++ y.1.2).length + p = y.2
      rw [List.length_append]
      omega
  · rw [if_neg hh]; intro x hx; cases hx
theorem eS_UP : ∀ n k, k + n = 7 → (∀ p, eS w (pU w sg g k p) p) ∧ ∀ p, eS w (pP w sg g k p) p
  | 0, k, h => by
    constructor
    · intro p x hx
      rw [pU_7 (by omega)] at hx
      cases hx
    · intro p x hx
      rw [pP_7 (by omega)] at hx
      cases hx
  | n + 1, k, h => by
    obtain ⟨hu, hp⟩ := eS_UP n (k + 1) (by omega)
    constructor
    · intro p x hx
      rw [pU_eq (by omega), List.mem_flatMap] at hx
      obtain ⟨f, -, hx⟩ := hx
      exact eS_F hu hp x hx
    · intro p x hx
      rw [pP_eq (by omega), List.mem_flatMap] at hx
      obtain ⟨f, -, hx⟩ := hx
      exact eS_F hu hp x hx
theorem eS_U (k p : Nat) : eS w (pU w sg g k p) p := by
  rcases Nat.lt_or_ge k 8 with z | z
  · exact (eS_UP (7 - k) k (by omega)).1 p
  · intro x hx; rw [pU_7 (by omega)] at hx; cases hx
theorem eS_P (k p : Nat) : eS w (pP w sg g k p) p := by
  rcases Nat.lt_or_ge k 8 with z | z
  · exact (eS_UP (7 - k) k (by omega)).2 p
  · intro x hx; rw [pP_7 (by omega)] at hx; cases hx
theorem eS_FF (k f p : Nat) : eS w (pF w sg g k f p) p := eS_F (eS_U (k + 1)) (eS_P (k + 1))
theorem eK_KK (t : gK) (p : Nat) (hp : p ≤ w.1) : eK w (pK w sg g t p) p := eK_K (eS_U _) (eS_P _) hp
end LNK
