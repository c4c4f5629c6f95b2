/-! Spans: its tables -/
def sp_at (X : Nat → Nat → Int32) (sz D : Nat) (E U P H PL RS CO AL LI : Nat → Nat) : Prop :=
  ((X 10 10 = nI sz ∧ sz ≤ 24) ∧ (X 10 9 = nI D ∧ D < 2 ^ 24)) ∧ (tm_ X 11 3591 E ∧ tm_ X 12 189 U ∧ tm_ X 13 189 P ∧ tm_ X 14 189 H) ∧ (tm_ X 15 7 PL ∧ tm_ X 16 7 RS ∧ tm_ X 17 7 CO ∧ tm_ X 18 7 AL ∧ tm_ X 19 7 LI) ∧ (∀ j, j < 7 → PL j < 2 ^ 24 ∧ RS j < 2 ^ 24 ∧ CO j < 2 ^ 24 ∧ AL j < 2 ^ 24 ∧ LI j < 2 ^ 24) ∧ ∀ j, 189 ≤ j → U j = 0 ∧ P j = 0 ∧ H j = 0
/-- nothing but the four tables changes -/
def spx (X X' : Nat → Nat → Int32) : Prop := ∀ a i : Nat, (a < 11 ∨ 14 < a) → X' a i = X a i
theorem spx.rf {X : Nat → Nat → Int32} : spx X X := fun _ _ _ => rfl
theorem spx.tr {X X1 X2 : Nat → Nat → Int32} (a : spx X X1) (b : spx X1 X2) : spx X X2 := fun p q h => (b p q h).trans (a p q h)
theorem spx.up {X X1 : Nat → Nat → Int32} (a : spx X X1) {b i : Nat} {v : Int32} (h : 11 ≤ b ∧ b ≤ 14) : spx X (xu X1 b i v) := fun p q hp => (xu_a (by omega)).trans (a p q hp)
theorem tm_xs {X : Nat → Nat → Int32} {b n i v : Nat} {T : Nat → Nat} (h : tm_ X b n T) (hv : v < 2 ^ 27) : tm_ (xu X b i (nI v)) b n (rm_up T i v) := by
  intro j hj
  by_cases e : j = i
  · subst e
    rw [xu_s, rm_up_s]
    exact ⟨rfl, hv⟩
  · rw [xu_i e, rm_up_n e]
    exact h j hj
theorem tm_xo {X : Nat → Nat → Int32} {a b n i : Nat} {v : Int32} {T : Nat → Nat} (h : tm_ X b n T) (hab : b ≠ a) : tm_ (xu X a i v) b n T := by
  intro j hj
  rw [xu_a hab]
  exact h j hj
section SPK
variable {X : Nat → Nat → Int32} {sz D : Nat} {E U P H PL RS CO AL LI : Nat → Nat}
theorem sp_keep {i j m : Nat} {tb : Nat} (h : sp_at X sz D E U P H PL RS CO AL LI) (hm : m < 2 ^ 27) (ht : tb = 12 ∨ tb = 13 ∨ tb = 14) {T : Nat → Nat} (hT : tm_ X tb 189 T) (hi : i < 189) (hU : tb ≠ 12 → U = U) : tm_ (xu (xu X tb i (nI (T i ||| m))) 11 j (nI m)) 11 3591 (rm_up E j m) ∧ tm_ (xu (xu X tb i (nI (T i ||| m))) 11 j (nI m)) tb 189 (rm_up T i (T i ||| m)) :=
  ⟨tm_xs (tm_xo h.2.1.1 (by omega)) hm, tm_xo (tm_xs hT (mk_or_lt (hT.lt hi) hm)) (by omega)⟩
theorem sp_rest {i j : Nat} {tb : Nat} {v w' : Int32} (h : sp_at X sz D E U P H PL RS CO AL LI) (ht : tb = 12 ∨ tb = 13 ∨ tb = 14) {E' U' P' H' : Nat → Nat} (hE : tm_ (xu (xu X tb i v) 11 j w') 11 3591 E') (hU : tm_ (xu (xu X tb i v) 11 j w') 12 189 U') (hP : tm_ (xu (xu X tb i v) 11 j w') 13 189 P') (hH : tm_ (xu (xu X tb i v) 11 j w') 14 189 H') (hz : ∀ j, 189 ≤ j → U' j = 0 ∧ P' j = 0 ∧ H' j = 0) : sp_at (xu (xu X tb i v) 11 j w') sz D E' U' P' H' PL RS CO AL LI := by
  obtain ⟨⟨⟨a1, a2⟩, a3, a4⟩, -, ⟨c1, c2, c3, c4, c5⟩, d, -⟩ := h
  refine ⟨⟨⟨?_, a2⟩, ?_, a4⟩, ⟨hE, hU, hP, hH⟩, ⟨tm_xo (tm_xo c1 (by omega)) (by omega), tm_xo (tm_xo c2 (by omega)) (by omega), tm_xo (tm_xo c3 (by omega)) (by omega), tm_xo (tm_xo c4 (by omega)) (by omega), tm_xo (tm_xo c5 (by omega)) (by omega)⟩, d, hz⟩
  · rw [xu_a (by decide), xu_a (by omega)]; exact a1
  · rw [xu_a (by decide), xu_a (by omega)]; exact a3
theorem sp_k12 {i j m : Nat} (h : sp_at X sz D E U P H PL RS CO AL LI) (hm : m < 2 ^ 27) (hi : i < 189) : sp_at (xu (xu X 12 i (nI (U i ||| m))) 11 j (nI m)) sz D (rm_up E j m) (rm_up U i (U i ||| m)) P H PL RS CO AL LI := by
  obtain ⟨k1, k2⟩ := sp_keep (j := j) h hm (Or.inl rfl) h.2.1.2.1 hi (fun _ => rfl)
  exact sp_rest h (Or.inl rfl) k1 k2 (tm_xo (tm_xo h.2.1.2.2.1 (by decide)) (by decide)) (tm_xo (tm_xo h.2.1.2.2.2 (by decide)) (by decide)) (fun z hz => ⟨(rm_up_n (by omega)).trans (h.2.2.2.2 z hz).1, (h.2.2.2.2 z hz).2⟩)
theorem sp_k13 {i j m : Nat} (h : sp_at X sz D E U P H PL RS CO AL LI) (hm : m < 2 ^ 27) (hi : i < 189) : sp_at (xu (xu X 13 i (nI (P i ||| m))) 11 j (nI m)) sz D (rm_up E j m) U (rm_up P i (P i ||| m)) H PL RS CO AL LI := by
  obtain ⟨k1, k2⟩ := sp_keep (j := j) h hm (Or.inr (Or.inl rfl)) h.2.1.2.2.1 hi (fun _ => rfl)
  exact sp_rest h (Or.inr (Or.inl rfl)) k1 (tm_xo (tm_xo h.2.1.2.1 (by decide)) (by decide)) k2 (tm_xo (tm_xo h.2.1.2.2.2 (by decide)) (by decide)) (fun z hz => ⟨(h.2.2.2.2 z hz).1, (rm_up_n (by omega)).trans (h.2.2.2.2 z hz).2.1, (h.2.2.2.2 z hz).2.2⟩)
theorem sp_k14 {i j m : Nat} (h : sp_at X sz D E U P H PL RS CO AL LI) (hm : m < 2 ^ 27) (hi : i < 189) : sp_at (xu (xu X 14 i (nI (H i ||| m))) 11 j (nI m)) sz D (rm_up E j m) U P (rm_up H i (H i ||| m)) PL RS CO AL LI := by
  obtain ⟨k1, k2⟩ := sp_keep (j := j) h hm (Or.inr (Or.inr rfl)) h.2.1.2.2.2 hi (fun _ => rfl)
  exact sp_rest h (Or.inr (Or.inr rfl)) k1 (tm_xo (tm_xo h.2.1.2.1 (by decide)) (by decide)) (tm_xo (tm_xo h.2.1.2.2.1 (by decide)) (by decide)) k2 (fun z hz => ⟨(h.2.2.2.2 z hz).1, (h.2.2.2.2 z hz).2.1, (rm_up_n (by omega)).trans (h.2.2.2.2 z hz).2.2⟩)
end SPK
theorem shl_lt {a n k : Nat} (h : a < 2 ^ n) (hk : n + k ≤ 27) : a <<< k < 2 ^ 27 := by
  rw [Nat.shiftLeft_eq]
  have h1 : a * 2 ^ k < 2 ^ n * 2 ^ k := Nat.mul_lt_mul_of_pos_right h (Nat.two_pow_pos k)
  rw [← Nat.pow_add] at h1
  exact Nat.lt_of_lt_of_le h1 (Nat.pow_le_pow_right (by decide) hk)
theorem and_l {a b n : Nat} (h : a < 2 ^ n) : a &&& b < 2 ^ n := Nat.lt_of_le_of_lt Nat.and_le_left h
theorem and_r {a b n : Nat} (h : b < 2 ^ n) : a &&& b < 2 ^ n := Nat.lt_of_le_of_lt Nat.and_le_right h
theorem lt2427 {a : Nat} (h : a < 2 ^ 24) : a < 2 ^ 27 := by omega
theorem dvd27 {m D : Nat} (hm : m < 2 ^ 27) (hD : D < 2 ^ 24) : m ||| ((m &&& D) <<< 1) < 2 ^ 27 := mk_or_lt hm (shl_lt (and_r hD) (by decide))
