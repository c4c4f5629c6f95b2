/-! Writer: its cells -/
section WCE
def wft (X : Nat → Nat → Int32) (i : Nat) (l : List Nat) : Prop := X 49 i = nI l.length ∧ ∀ j c, l[j]? = some c → X 48 (i * 14 + j) = nI c
def rwN (sg : Nat) (wv : Nat → Int32) : Nat → Nat
  | 0 => 1
  | i + 1 => rwN sg wv i * (ftl sg wv i).length
def wrt_ (X : Nat → Nat → Int32) (sg n : Nat) (wv : Nat → Int32) : Prop := vs_ X 36 sg ∧ X 35 6 = nI n ∧ (∀ i, i < 3 → X 46 i = wv i) ∧ (∀ i, i < n → wft X i (ftl sg wv i)) ∧ X 35 7 = nI (rwN sg wv n)
theorem rwN_le {sg : Nat} {wv : Nat → Int32} : ∀ n, rwN sg wv n ≤ 14 ^ n
  | 0 => Nat.le_refl _
  | n + 1 => by
    show rwN sg wv n * (ftl sg wv n).length ≤ 14 ^ (n + 1)
    rw [Nat.pow_succ]
    exact Nat.mul_le_mul (rwN_le n) ftl_len
theorem ENr_app : ∀ (l : List (List Nat)) (f : List Nat), (ENr (l ++ [f])).length = (ENr l).length * f.length
  | [], f => by
    show (ENr [f]).length = 1 * f.length
    rw [ENr_len]
    show f.length * 1 = _
    omega
  | g :: l, f => by
    show (ENr (g :: (l ++ [f]))).length = _
    rw [ENr_len, ENr_len, ENr_app l f, Nat.mul_assoc]
theorem ENr_rw {sg : Nat} {wv : Nat → Int32} : ∀ n, (ENr ((List.range' 0 n).map (ftl sg wv))).length = rwN sg wv n
  | 0 => rfl
  | n + 1 => by
    rw [List.range'_concat, List.map_append, List.map_singleton, ENr_app, ENr_rw n, Nat.zero_add, Nat.one_mul]
    rfl
theorem wft_x {X X' : Nat → Nat → Int32} {i : Nat} {l : List Nat} (h : wft X i l) (e : ∀ j, j < 14 → X' 48 (i * 14 + j) = X 48 (i * 14 + j)) (e2 : X' 49 i = X 49 i) (hl : l.length ≤ 14) : wft X' i l := ⟨e2.trans h.1, fun j c hc => (e j (by have := get_lt hc; omega)).trans (h.2 j c hc)⟩
theorem wrt_x {X X' : Nat → Nat → Int32} {sg n : Nat} {wv : Nat → Int32} (h : wrt_ X sg n wv) (e : ∀ b i, (b = 35 ∧ (i = 6 ∨ i = 7)) ∨ (b = 36 ∧ (i = 3 ∨ i = 4)) ∨ b = 37 ∨ b = 46 ∨ b = 48 ∨ b = 49 → X' b i = X b i) : wrt_ X' sg n wv := ⟨vs_s h.1 (fun b i z => e b i (by omega)), (e _ _ (by omega)).trans h.2.1, fun i hi => (e _ _ (by omega)).trans (h.2.2.1 i hi), fun i hi => wft_x (h.2.2.2.1 i hi) (fun j hj => e _ _ (by omega)) (e _ _ (by omega)) ftl_len, (e _ _ (by omega)).trans h.2.2.2.2⟩
theorem flr_s {p : Nat → Bool} {c : Nat} : (List.range (c + 1)).filter p = (List.range c).filter p ++ (if p c = true then [c] else []) := by
  rw [List.range_succ, List.filter_append]
  congr 1
  by_cases h : p c = true
  · rw [if_pos h, List.filter_cons_of_pos h]; rfl
  · rw [if_neg h, List.filter_cons_of_neg h]; rfl
theorem flr_len {p : Nat → Bool} {c : Nat} : ((List.range c).filter p).length ≤ c := by
  have := List.length_filter_le p (List.range c)
  rw [List.length_range] at this
  exact this
theorem wft_s {X : Nat → Nat → Int32} {i c : Nat} {l : List Nat} (h : wft X i l) : wft (xu (xu X 48 (i * 14 + l.length) (nI c)) 49 i (nI (l.length + 1))) i (l ++ [c]) := by
  refine ⟨by rw [List.length_append]; exact xu_s, fun j d hd => ?_⟩
  rcases get_app hd with h1 | ⟨h1, h2⟩
  · have := get_lt h1
    exact (xu_a (by decide)).trans ((xu_i (by omega)).trans (h.2 j d h1))
  · subst h2
    rw [h1]
    exact (xu_a (by decide)).trans xu_s
theorem shr_1 (c : Nat) : c >>> 1 = c / 2 := Nat.shiftRight_eq_div_pow c 1
end WCE
