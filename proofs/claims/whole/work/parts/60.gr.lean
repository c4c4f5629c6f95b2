/-! what the class finds: choices, reading, how many tell the same -/
abbrev gL : Type := List Nat × gR × Nat
def lp_ (ch f : Nat) (iv : List Nat) (x : gL) : gL := (ch :: x.1, gc ([f], iv) x.2.1, x.2.2)
def lt_ (vs : List Nat) (x : gL) : gL := (x.1, gc ([], vs) x.2.1, x.2.2)
def lc_ (j : Nat) (x : gL) : gL := (x.1, gc ([12], [0]) x.2.1, j * x.2.2)
def dvn : List gK → Nat × List gK
  | [] => (0, [])
  | t :: ts => if t.1 = 6 then ((dvn ts).1 + 1, (dvn ts).2) else (0, t :: ts)
def fs_ (s : Nat) : List Nat := if s = 1 then [1, 2, 3, 4, 5, 6, 7, 8, 9, 10, 11] else if s = 2 then [13, 14, 15] else [16, 17]
def B1 (w : ro_w) (sg g : Nat) (row : Nat → List gL) : Nat → List gK → Nat → List gL
  | _, [], p => row p
  | 0, _ :: _, _ => []
  | m + 1, t :: r, p =>
    if t.1 = 1 ∨ t.1 = 2 ∨ t.1 = 3 then (fs_ t.1).flatMap (fun f => if hd_ w sg g t.2.1 f p = true then (B1 w sg g row m (ts_ sg t.2.1 f ++ r) (p + (iv_ sg t.2.1 f).length)).map (lp_ f f (iv_ sg t.2.1 f)) else [])
    else if t.1 = 4 then (if al_ w p t.2.1 = true then (B1 w sg g row m r (p + 1)).map (lt_ [t.2.2]) else [])
    else if t.1 = 7 then (if li_ w p t.2.1 = true then (B1 w sg g row m r (p + 1)).map (lt_ [t.2.2]) else [])
    else if t.1 = 5 then (if do_ w p t.2.1 = true then (B1 w sg g row m r (p + 2)).map (lt_ [t.2.2, 0]) else [])
    else if t.1 = 6 then (if ro_dot w p = true then (B1 w sg g row m (dvn (t :: r)).2 (p + 1)).map (lc_ (dvn (t :: r)).1) else B1 w sg g row m (dvn (t :: r)).2 p)
    else []
def wk_ (t : gK) : Nat := if t.1 = 1 ∨ t.1 = 2 then 4 ^ (9 - t.2.1) else 1
def wts (ts : List gK) : Nat := (ts.map wk_).sum
def Bt (w : ro_w) (sg g : Nat) (row : Nat → List gL) (ts : List gK) (p : Nat) : List gL := B1 w sg g row (wts ts) ts p
def Brf (w : ro_w) (sg g : Nat) : Nat → Nat → List gL
  | 0, p => if w.1 ≤ p then [([], ([], []), 1)] else []
  | n + 1, p => if w.1 ≤ p then [([], ([], []), 1)] else (List.range' 1 18).flatMap (fun ch => match ic_ w g ch p with
    | none => []
    | some k => if hd_ w sg g k (if_ ch) p = true then (Bt w sg g (Brf w sg g n) (ts_ sg k (if_ ch)) (p + (iv_ sg k (if_ ch)).length)).map (lp_ ch (if_ ch) (iv_ sg k (if_ ch))) else [])
def Br (w : ro_w) (sg g p : Nat) : List gL := Brf w sg g (w.1 - p) p
section BRS
variable {w : ro_w} {sg g : Nat}
theorem wts_nil : wts [] = 0 := rfl
theorem wts_cons (t : gK) (ts : List gK) : wts (t :: ts) = wk_ t + wts ts := by unfold wts; rw [List.map_cons, List.sum_cons]
theorem wts_app (ts us : List gK) : wts (ts ++ us) = wts ts + wts us := by unfold wts; rw [List.map_append, List.sum_append]
theorem wk_pos (t : gK) : 1 ≤ wk_ t := by
  unfold wk_
  split
  · exact Nat.pos_of_ne_zero (fun z => by have := Nat.pow_eq_zero.mp z; omega)
  · exact Nat.le_refl _
theorem dvn_wts : ∀ ts, wts (dvn ts).2 ≤ wts ts
  | [] => Nat.le_refl _
  | t :: ts => by
    unfold dvn
    split
    · rw [wts_cons]
      have := dvn_wts ts
      show wts (dvn ts).2 ≤ _
      omega
    · exact Nat.le_refl _
theorem dvn_lt {t : gK} {ts : List gK} (h : t.1 = 6) : wts (dvn (t :: ts)).2 < wts (t :: ts) := by
  have e : (dvn (t :: ts)).2 = (dvn ts).2 := by
    show (if t.1 = 6 then _ else _ : Nat × List gK).2 = _
    rw [if_pos h]
  rw [e, wts_cons]
  have := dvn_wts ts
  have := wk_pos t
  omega
theorem dv_wts (k : Nat) : wts (dv_ sg k) ≤ 1 := by
  unfold dv_
  split
  · exact Nat.le_refl 1
  · exact Nat.zero_le 1
theorem ts_wts {t : gK} {f : Nat} (hs : t.1 = 1 ∨ t.1 = 2 ∨ t.1 = 3) (hf : f ∈ fs_ t.1) (hk : t.2.1 ≤ 7) : wts (ts_ sg t.2.1 f) < wk_ t := by
  obtain ⟨s, k, v⟩ := t
  dsimp only at hs hf hk ⊢
  have hd : ∀ b : Prop, [Decidable b] → wts (if b then dv_ sg k else []) ≤ 1 := by
    intro b _
    split
    · exact dv_wts k
    · decide
  have e1 : ∀ v, wk_ (1, k + 1, v) = 4 ^ (8 - k) := fun v => by unfold wk_; rw [if_pos (Or.inl rfl), show 9 - (k + 1) = 8 - k from by omega]
  have e2 : ∀ v, wk_ (2, k + 1, v) = 4 ^ (8 - k) := fun v => by unfold wk_; rw [if_pos (Or.inr rfl), show 9 - (k + 1) = 8 - k from by omega]
  have e3 : ∀ j v, wk_ (3, j, v) = 1 := fun _ _ => rfl
  have e4 : ∀ j v, wk_ (4, j, v) = 1 := fun _ _ => rfl
  have e5 : ∀ j v, wk_ (5, j, v) = 1 := fun _ _ => rfl
  have e7 : ∀ j v, wk_ (7, j, v) = 1 := fun _ _ => rfl
  have hpow : 4 ^ (9 - k) = 4 * 4 ^ (8 - k) := by rw [show 9 - k = (8 - k) + 1 from by omega, Nat.pow_succ, Nat.mul_comm]
  have hge : 4 ≤ 4 ^ (8 - k) := by
    rw [show 8 - k = (7 - k) + 1 from by omega, Nat.pow_succ]
    have : 1 ≤ 4 ^ (7 - k) := Nat.pos_of_ne_zero (fun z => by have := Nat.pow_eq_zero.mp z; omega)
    omega
  unfold ts_
  rw [wts_app]
  rcases hs with rfl | rfl | rfl
  · have hw : wk_ (1, k, v) = 4 ^ (9 - k) := rfl
    rw [hw, hpow]
    simp only [fs_, if_true, List.mem_cons, List.not_mem_nil, or_false] at hf
    have h0 := hd (f ≤ 2 ∨ 6 ≤ f ∧ f ≤ 11)
    have ht : wts (t0_ sg k f) ≤ 3 * 4 ^ (8 - k) := by
      rcases hf with rfl | rfl | rfl | rfl | rfl | rfl | rfl | rfl | rfl | rfl | rfl
      all_goals
        simp only [t0_, wts_cons, wts_nil, e1, e2, e4, e7, Nat.reduceEqDiff, if_true, if_false]
        omega
    omega
  · have hw : wk_ (2, k, v) = 4 ^ (9 - k) := rfl
    rw [hw, hpow]
    simp only [fs_, Nat.reduceEqDiff, if_true, if_false, List.mem_cons, List.not_mem_nil, or_false] at hf
    have h0 := hd (f ≤ 2 ∨ 6 ≤ f ∧ f ≤ 11)
    have ht : wts (t0_ sg k f) ≤ 3 * 4 ^ (8 - k) := by
      rcases hf with rfl | rfl | rfl
      all_goals
        simp only [t0_, wts_cons, wts_nil, e1, e2, e3, e5, Nat.reduceEqDiff, if_true, if_false]
        omega
    omega
  · have hw : wk_ (3, k, v) = 1 := rfl
    rw [hw]
    simp only [fs_, Nat.reduceEqDiff, if_false, List.mem_cons, List.not_mem_nil, or_false] at hf
    rcases hf with rfl | rfl <;> exact Nat.zero_lt_one
/-- tasks of kinds up to 6 -/
def kk_ (ts : List gK) : Prop := ∀ t ∈ ts, t.2.1 ≤ 6
theorem ts_kk {k f p : Nat} (hk : k ≤ 6) (hh : hd_ w sg g k f p = true) : kk_ (ts_ sg k f) := by
  have hip : f = 4 ∨ f = 5 ∨ f = 14 → k < 6 := by
    intro hf
    rw [hd_ip f hf] at hh
    simp at hh
    exact hh.2
  have h13 : f = 13 → k < 6 := by
    intro hf
    subst hf
    have h2 : ((!(sp_perf sg k) && decide (k < 6)) && (ro_plain w p k && ro_dot w (p + 1))) = true := hh
    simp at h2
    exact h2.1.2
  have hpf : 6 ≤ f ∧ f ≤ 11 → k < 4 := by
    intro hf
    by_cases h7 : f = 7
    · subst h7
      have h2 : (sp_perf sg k && ro_plain w p k) = true := hh
      simp at h2
      exact perf_lt h2.1
    · rw [hd_pf f (by omega)] at hh
      exact perf_lt hh
  intro t ht
  unfold ts_ at ht
  rcases List.mem_append.mp ht with h | h
  · unfold t0_ at h
    by_cases c0 : f = 4
    · rw [if_pos c0] at h
      have hb := hip (by omega)
      simp only [List.mem_cons, List.not_mem_nil, or_false] at h
      rcases h with e | e
      · subst e; show k + 1 ≤ 6; omega
      · subst e; show k + 1 ≤ 6; omega
    rw [if_neg c0] at h
    by_cases c1 : f = 5
    · rw [if_pos c1] at h
      have hb := hip (by omega)
      simp only [List.mem_cons, List.not_mem_nil, or_false] at h
      subst h; show k + 1 ≤ 6; omega
    rw [if_neg c1] at h
    by_cases c2 : f = 6
    · rw [if_pos c2] at h
      have hb := hpf (by omega)
      simp only [List.mem_cons, List.not_mem_nil, or_false] at h
      rcases h with e | e | e
      · subst e; show k + 1 ≤ 6; omega
      · subst e; show k + 1 ≤ 6; omega
      · subst e; show k + 1 ≤ 6; omega
    rw [if_neg c2] at h
    by_cases c3 : f = 7
    · rw [if_pos c3] at h
      have hb := hpf (by omega)
      simp only [List.mem_cons, List.not_mem_nil, or_false] at h
      subst h; show k + 1 ≤ 6; omega
    rw [if_neg c3] at h
    by_cases c4 : f = 8
    · rw [if_pos c4] at h
      have hb := hpf (by omega)
      simp only [List.mem_cons, List.not_mem_nil, or_false] at h
      rcases h with e | e
      · subst e; show k + 1 ≤ 6; omega
      · subst e; show k + 1 ≤ 6; omega
    rw [if_neg c4] at h
    by_cases c5 : f = 9
    · rw [if_pos c5] at h
      have hb := hpf (by omega)
      simp only [List.mem_cons, List.not_mem_nil, or_false] at h
      rcases h with e | e
      · subst e; show k + 1 ≤ 6; omega
      · subst e; show k ≤ 6; omega
    rw [if_neg c5] at h
    by_cases c6 : f = 10
    · rw [if_pos c6] at h
      have hb := hpf (by omega)
      simp only [List.mem_cons, List.not_mem_nil, or_false] at h
      rcases h with e | e
      · subst e; show k + 1 ≤ 6; omega
      · subst e; show k + 1 ≤ 6; omega
    rw [if_neg c6] at h
    by_cases c7 : f = 11
    · rw [if_pos c7] at h
      have hb := hpf (by omega)
      simp only [List.mem_cons, List.not_mem_nil, or_false] at h
      rcases h with e | e
      · subst e; show k + 1 ≤ 6; omega
      · subst e; show k + 1 ≤ 6; omega
    rw [if_neg c7] at h
    by_cases c8 : f = 13
    · rw [if_pos c8] at h
      have hb := h13 (by omega)
      simp only [List.mem_cons, List.not_mem_nil, or_false] at h
      subst h; show k + 1 ≤ 6; omega
    rw [if_neg c8] at h
    by_cases c9 : f = 14
    · rw [if_pos c9] at h
      have hb := hip (by omega)
      simp only [List.mem_cons, List.not_mem_nil, or_false] at h
      rcases h with e | e
      · subst e; show k + 1 ≤ 6; omega
      · subst e; show k ≤ 6; omega
    rw [if_neg c9] at h
    by_cases c10 : f = 15
    · rw [if_pos c10] at h
      have hb := hk
      simp only [List.mem_cons, List.not_mem_nil, or_false] at h
      rcases h with e | e | e
      · subst e; show k ≤ 6; omega
      · subst e; show k ≤ 6; omega
      · subst e; show k ≤ 6; omega
    rw [if_neg c10] at h
    cases h
  · by_cases hf : f ≤ 2 ∨ 6 ≤ f ∧ f ≤ 11
    · rw [if_pos hf] at h
      unfold dv_ at h
      split at h
      · rw [List.mem_singleton] at h; subst h; show k ≤ 6; omega
      · cases h
    · rw [if_neg hf] at h; cases h
theorem dvn_mem : ∀ ts, ∀ t ∈ (dvn ts).2, t ∈ ts
  | [], t, h => h
  | x :: ts, t, h => by
    unfold dvn at h
    split at h
    · exact List.mem_cons_of_mem _ (dvn_mem ts t h)
    · exact h
end BRS
