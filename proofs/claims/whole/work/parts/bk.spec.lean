/-! rows that agree but at dots -/
section DCH
variable {w w' : ro_w} {sg g : Nat}
def dd_ (w w' : ro_w) : Prop := w.1 = w'.1 ∧ (∀ i, i < w.1 → w.2.1 i = w'.2.1 i) ∧ ∀ i, i < w.1 → w.2.1 i ≠ 3 → w.2.2.1 i = w'.2.2.1 i ∧ w.2.2.2 i = w'.2.2.2 i
theorem dd_dot (h : dd_ w w') (p : Nat) : ro_dot w p = ro_dot w' p := by
  unfold ro_dot
  rw [← h.1]
  by_cases c : p < w.1
  · rw [h.2.1 p c]
  · rw [decide_eq_false c, Bool.false_and, Bool.false_and]
theorem dd_pl (h : dd_ w w') (p k : Nat) : ro_plain w p k = ro_plain w' p k ∧ ro_dyed w p k = ro_dyed w' p k ∧ ro_rest w p k = ro_rest w' p k := by
  unfold ro_plain ro_dyed ro_rest
  rw [← h.1]
  by_cases c : p < w.1
  · have e1 := h.2.1 p c
    by_cases c3 : w.2.1 p = 3
    · rw [← e1, c3]; simp
    · obtain ⟨e2, e3⟩ := h.2.2 p c c3
      rw [e1, e2, e3]
      exact ⟨rfl, rfl, rfl⟩
  · rw [decide_eq_false c, Bool.false_and, Bool.false_and, Bool.false_and, Bool.false_and, Bool.false_and, Bool.false_and]
    exact ⟨rfl, rfl, rfl⟩
theorem dd_sk (h : dd_ w w') : ∀ f j, ro_skip w f j = ro_skip w' f j
  | 0, _ => rfl
  | f + 1, j => by
    show (if ro_dot w j = true then ro_skip w f (j + 1) else j) = (if ro_dot w' j = true then ro_skip w' f (j + 1) else j)
    rw [dd_dot h j, dd_sk h f (j + 1)]
theorem sk_nd : ∀ f j, j + f = w.1 → ro_skip w f j < w.1 → ro_dot w (ro_skip w f j) = false
  | 0, j, h1, h2 => by
    have h2 : j < w.1 := h2
    omega
  | f + 1, j, h1, h2 => by
    by_cases c : ro_dot w j = true
    · rw [show ro_skip w (f + 1) j = ro_skip w f (j + 1) from if_pos c] at h2 ⊢
      exact sk_nd f (j + 1) (by omega) h2
    · rw [show ro_skip w (f + 1) j = j from if_neg c]
      simpa using c
theorem nd_3s {p : Nat} (hp : p < w.1) (h : ro_dot w p = false) : w.2.1 p ≠ 3 := fun e => by
  unfold ro_dot at h
  rw [decide_eq_true hp, decide_eq_true e] at h
  cases h
theorem dd_nx (h : dd_ w w') {p : Nat} (hp : p < w.1) : ro_next w p = ro_next w' p := by
  unfold ro_next
  rw [← h.1, ← dd_sk h]
  by_cases c : ro_skip w (w.1 - (p + 1)) (p + 1) < w.1
  · rw [if_pos c, if_pos c, (h.2.2 _ c (nd_3s c (sk_nd _ _ (by omega) c))).1]
  · rw [if_neg c, if_neg c]
theorem pl_lt {p k : Nat} (h : ro_plain w p k = true) : p < w.1 := by
  unfold ro_plain at h
  rw [Bool.and_eq_true] at h
  exact of_decide_eq_true h.1
theorem dd_al (h : dd_ w w') (p k : Nat) : al_ w p k = al_ w' p k ∧ li_ w p k = li_ w' p k ∧ do_ w p k = do_ w' p k := by
  unfold al_ li_ do_
  rw [← (dd_pl h p k).1, ← dd_dot h (p + 1)]
  by_cases c : ro_plain w p k = true
  · rw [dd_nx h (pl_lt c)]
    exact ⟨rfl, rfl, rfl⟩
  · have c : ro_plain w p k = false := by simpa using c
    rw [c]
    exact ⟨rfl, rfl, rfl⟩
theorem dd_hd (h : dd_ w w') (k f p : Nat) : hd_ w sg g k f p = hd_ w' sg g k f p := by
  unfold hd_
  rw [(dd_pl h p k).1, (dd_pl h p k).2.1, (dd_pl h p k).2.2, (dd_pl h p (k + 1)).2.1, (dd_pl h (p + 1) (k + 1)).2.1, dd_dot h (p + 1)]
theorem dd_B1 (h : dd_ w w') {row : Nat → List gL} : ∀ (m : Nat) (ts : List gK) (p : Nat), B1 w sg g row m ts p = B1 w' sg g row m ts p
  | _, [], p => by rw [B1, B1]
  | 0, _ :: _, _ => by rw [B1, B1]
  | m + 1, t :: r, p => by
    rw [B1, B1]
    have ih := fun ts p => dd_B1 h (row := row) m ts p
    simp only [ih, dd_hd h, (dd_al h _ _).1, (dd_al h _ _).2.1, (dd_al h _ _).2.2, dd_dot h]
theorem dd_ic (h : dd_ w w') {ch p : Nat} (hp : p < w.1) (hd : ro_dot w p = false) : ic_ w g ch p = ic_ w' g ch p := by
  obtain ⟨e1, e2⟩ := h.2.2 p hp (nd_3s hp hd)
  unfold ic_
  rw [e1, e2]
theorem dd_Brf (h : dd_ w w') : ∀ n, Brf w sg g n = Brf w' sg g n
  | 0 => by
    funext p
    rw [Brf, Brf, h.1]
  | n + 1 => by
    funext p
    by_cases c : w.1 ≤ p
    · rw [Brf, Brf, if_pos c, if_pos (by rw [← h.1]; exact c)]
    · by_cases hd : ro_dot w p = true
      · rw [Brf_dot hd (by omega), Brf_dot (by rw [← dd_dot h]; exact hd) (by rw [← h.1]; omega)]
      · have hd : ro_dot w p = false := by simpa using hd
        rw [Brf, Brf, if_neg c, if_neg (by rw [← h.1]; exact c)]
        congr 1
        funext ch
        rw [dd_ic h (by omega) hd]
        cases ic_ w' g ch p with
        | none => rfl
        | some k =>
          show (if hd_ w sg g k (if_ ch) p = true then (B1 w sg g (Brf w sg g n) _ (ts_ sg k (if_ ch)) (p + (iv_ sg k (if_ ch)).length)).map _ else []) = (if hd_ w' sg g k (if_ ch) p = true then (B1 w' sg g (Brf w' sg g n) _ (ts_ sg k (if_ ch)) (p + (iv_ sg k (if_ ch)).length)).map _ else [])
          rw [dd_hd h, dd_B1 h, dd_Brf h n]
theorem dd_rD (h : dd_ w w') : rD w sg = rD w' sg := by
  unfold rD rS rL Br
  rw [dd_Brf h, h.1]
end DCH
