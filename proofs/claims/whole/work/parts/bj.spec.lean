/-! rows that differ at dots alone, in what no one asks -/
section DCG
variable {w w' : ro_w} {sg g : Nat}
theorem pl_dot {p k : Nat} (h : ro_dot w p = true) : ro_plain w p k = false ∧ ro_dyed w p k = false ∧ ro_rest w p k = false := by
  unfold ro_dot at h
  rw [Bool.and_eq_true] at h
  have h3 : w.2.1 p = 3 := of_decide_eq_true h.2
  unfold ro_plain ro_dyed ro_rest
  rw [h3]
  simp
theorem hd_do2 {k f p : Nat} (h : ro_dot w p = true) (hh : hd_ w sg g k f p = true) : iv_ sg k f = [] ∧ ∃ t r, ts_ sg k f = t :: r ∧ t.1 ≠ 6 := by
  have e1 := fun k => (pl_dot (k := k) h).1
  have e2 := fun k => (pl_dot (k := k) h).2.1
  have e3 := fun k => (pl_dot (k := k) h).2.2
  have hf : f = 4 ∨ f = 5 ∨ f = 6 ∨ f = 8 ∨ f = 9 ∨ f = 10 ∨ f = 11 ∨ f = 14 ∨ f = 15 := by
    unfold hd_ at hh
    simp only [e1, e2, e3, Bool.and_false, Bool.false_and] at hh
    repeat' split at hh
    all_goals first | omega | (simp at hh)
  rcases hf with rfl | rfl | rfl | rfl | rfl | rfl | rfl | rfl | rfl <;> exact ⟨rfl, _, _, rfl, by intro z; simp at z⟩
theorem B1_dot {row : Nat → List gL} {p : Nat} (h : ro_dot w p = true) : ∀ (m : Nat) (t : gK) (r : List gK), t.1 ≠ 6 → B1 w sg g row m (t :: r) p = []
  | 0, t, r, _ => by rw [B1]
  | m + 1, t, r, h6 => by
    have e1 := fun k => (pl_dot (k := k) h).1
    rw [B1]
    split
    · apply List.flatMap_eq_nil_iff.mpr
      intro f _
      by_cases hh : hd_ w sg g t.2.1 f p = true
      · obtain ⟨i0, t', r', e, n6⟩ := hd_do2 h hh
        rw [if_pos hh, i0, e, List.cons_append, List.length_nil, Nat.add_zero, B1_dot h m t' (r' ++ r) n6]
        rfl
      · rw [if_neg hh]
    · split
      · rw [if_neg (by unfold al_; rw [e1]; simp)]
      · split
        · rw [if_neg (by unfold li_; rw [e1]; simp)]
        · split
          · rw [if_neg (by unfold do_; rw [e1]; simp)]
          · first | rfl | rw [if_neg h6]
theorem Brf_dot {p : Nat} (h : ro_dot w p = true) (hp : p < w.1) : ∀ n, Brf w sg g n p = []
  | 0 => by rw [Brf, if_neg (by omega)]
  | n + 1 => by
    rw [Brf, if_neg (by omega)]
    apply List.flatMap_eq_nil_iff.mpr
    intro ch _
    cases ic_ w g ch p with
    | none => rfl
    | some k =>
      show (if hd_ w sg g k (if_ ch) p = true then (Bt w sg g (Brf w sg g n) (ts_ sg k (if_ ch)) (p + (iv_ sg k (if_ ch)).length)).map (lp_ ch (if_ ch) (iv_ sg k (if_ ch))) else []) = []
      by_cases hh : hd_ w sg g k (if_ ch) p = true
      · obtain ⟨i0, t', r', e, n6⟩ := hd_do2 h hh
        rw [if_pos hh, i0, e, List.length_nil, Nat.add_zero]
        unfold Bt
        rw [B1_dot h _ t' r' n6]
        rfl
      · rw [if_neg hh]
end DCG
