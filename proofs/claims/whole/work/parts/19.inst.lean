/-! voices, rows, times, fractions, followers: where they stand -/
def vA (a : Nat) : Prop := a = 36 ∨ (∃ i, i < 6 ∧ a = 61 + 10 * i)
theorem vA_lt {a : Nat} (h : vA a) (n : Nat) (hn : n < 10) : a + n < cm_n := by
  unfold vA at h
  rcases h with rfl | ⟨i, hi, rfl⟩ <;> (unfold cm_n; omega)
theorem vA_0 {a : Nat} (h : vA a) : cm_sh a = (0, 9, 9, 0) := by
  unfold vA at h
  rcases h with rfl | ⟨i, hi, rfl⟩
  · rfl
  · exact (show ∀ i, i < 6 → cm_sh (61 + 10 * i) = (0, 9, 9, 0) by decide +kernel) i hi
theorem vA_1 {a : Nat} (h : vA a) : cm_sh (a + 1) = (1, 0, 7, 0) := by
  unfold vA at h
  rcases h with rfl | ⟨i, hi, rfl⟩
  · rfl
  · exact (show ∀ i, i < 6 → cm_sh (61 + 10 * i + 1) = (1, 0, 7, 0) by decide +kernel) i hi
theorem vA_2 {a : Nat} (h : vA a) : cm_sh (a + 2) = (1, 0, 24, 0) := by
  unfold vA at h
  rcases h with rfl | ⟨i, hi, rfl⟩
  · rfl
  · exact (show ∀ i, i < 6 → cm_sh (61 + 10 * i + 2) = (1, 0, 24, 0) by decide +kernel) i hi
theorem vA_3 {a : Nat} (h : vA a) : cm_sh (a + 3) = (0, 6, 9, 0) := by
  unfold vA at h
  rcases h with rfl | ⟨i, hi, rfl⟩
  · rfl
  · exact (show ∀ i, i < 6 → cm_sh (61 + 10 * i + 3) = (0, 6, 9, 0) by decide +kernel) i hi
theorem vA_4 {a : Nat} (h : vA a) : cm_sh (a + 4) = (1, 0, 24, 0) := by
  unfold vA at h
  rcases h with rfl | ⟨i, hi, rfl⟩
  · rfl
  · exact (show ∀ i, i < 6 → cm_sh (61 + 10 * i + 4) = (1, 0, 24, 0) by decide +kernel) i hi
theorem vA_5 {a : Nat} (h : vA a) : cm_sh (a + 5) = (1, 0, 24, 0) := by
  unfold vA at h
  rcases h with rfl | ⟨i, hi, rfl⟩
  · rfl
  · exact (show ∀ i, i < 6 → cm_sh (61 + 10 * i + 5) = (1, 0, 24, 0) by decide +kernel) i hi
theorem vA_6 {a : Nat} (h : vA a) : cm_sh (a + 6) = (1, 0, 24, 0) := by
  unfold vA at h
  rcases h with rfl | ⟨i, hi, rfl⟩
  · rfl
  · exact (show ∀ i, i < 6 → cm_sh (61 + 10 * i + 6) = (1, 0, 24, 0) by decide +kernel) i hi
theorem vA_7 {a : Nat} (h : vA a) : cm_sh (a + 7) = (3, 0, 24, 0) := by
  unfold vA at h
  rcases h with rfl | ⟨i, hi, rfl⟩
  · rfl
  · exact (show ∀ i, i < 6 → cm_sh (61 + 10 * i + 7) = (3, 0, 24, 0) by decide +kernel) i hi
theorem vA_8 {a : Nat} (h : vA a) : cm_sh (a + 8) = (1, 0, 24, 0) := by
  unfold vA at h
  rcases h with rfl | ⟨i, hi, rfl⟩
  · rfl
  · exact (show ∀ i, i < 6 → cm_sh (61 + 10 * i + 8) = (1, 0, 24, 0) by decide +kernel) i hi
theorem vA_9 {a : Nat} (h : vA a) : cm_sh (a + 9) = (1, 0, 24, 0) := by
  unfold vA at h
  rcases h with rfl | ⟨i, hi, rfl⟩
  · rfl
  · exact (show ∀ i, i < 6 → cm_sh (61 + 10 * i + 9) = (1, 0, 24, 0) by decide +kernel) i hi
def rA (a : Nat) : Prop := a = 39 ∨ (∃ i, i < 6 ∧ a = 64 + 10 * i)
theorem rA_lt {a : Nat} (h : rA a) (n : Nat) (hn : n < 7) : a + n < cm_n := by
  unfold rA at h
  rcases h with rfl | ⟨i, hi, rfl⟩ <;> (unfold cm_n; omega)
theorem rA_0 {a : Nat} (h : rA a) : cm_sh a = (0, 6, 9, 0) := by
  unfold rA at h
  rcases h with rfl | ⟨i, hi, rfl⟩
  · rfl
  · exact (show ∀ i, i < 6 → cm_sh (64 + 10 * i) = (0, 6, 9, 0) by decide +kernel) i hi
theorem rA_1 {a : Nat} (h : rA a) : cm_sh (a + 1) = (1, 0, 24, 0) := by
  unfold rA at h
  rcases h with rfl | ⟨i, hi, rfl⟩
  · rfl
  · exact (show ∀ i, i < 6 → cm_sh (64 + 10 * i + 1) = (1, 0, 24, 0) by decide +kernel) i hi
theorem rA_2 {a : Nat} (h : rA a) : cm_sh (a + 2) = (1, 0, 24, 0) := by
  unfold rA at h
  rcases h with rfl | ⟨i, hi, rfl⟩
  · rfl
  · exact (show ∀ i, i < 6 → cm_sh (64 + 10 * i + 2) = (1, 0, 24, 0) by decide +kernel) i hi
theorem rA_3 {a : Nat} (h : rA a) : cm_sh (a + 3) = (1, 0, 24, 0) := by
  unfold rA at h
  rcases h with rfl | ⟨i, hi, rfl⟩
  · rfl
  · exact (show ∀ i, i < 6 → cm_sh (64 + 10 * i + 3) = (1, 0, 24, 0) by decide +kernel) i hi
theorem rA_4 {a : Nat} (h : rA a) : cm_sh (a + 4) = (3, 0, 24, 0) := by
  unfold rA at h
  rcases h with rfl | ⟨i, hi, rfl⟩
  · rfl
  · exact (show ∀ i, i < 6 → cm_sh (64 + 10 * i + 4) = (3, 0, 24, 0) by decide +kernel) i hi
theorem rA_5 {a : Nat} (h : rA a) : cm_sh (a + 5) = (1, 0, 24, 0) := by
  unfold rA at h
  rcases h with rfl | ⟨i, hi, rfl⟩
  · rfl
  · exact (show ∀ i, i < 6 → cm_sh (64 + 10 * i + 5) = (1, 0, 24, 0) by decide +kernel) i hi
theorem rA_6 {a : Nat} (h : rA a) : cm_sh (a + 6) = (1, 0, 24, 0) := by
  unfold rA at h
  rcases h with rfl | ⟨i, hi, rfl⟩
  · rfl
  · exact (show ∀ i, i < 6 → cm_sh (64 + 10 * i + 6) = (1, 0, 24, 0) by decide +kernel) i hi
def tA (a : Nat) : Prop := a = 51 ∨ a = 56
theorem tA_lt {a : Nat} (h : tA a) (n : Nat) (hn : n < 5) : a + n < cm_n := by
  unfold tA at h
  rcases h with rfl | rfl <;> (unfold cm_n; omega)
theorem tA_0 {a : Nat} (h : tA a) : cm_sh a = (0, 8, 5, 0) := by
  unfold tA at h
  rcases h with rfl | rfl
  · rfl
  · rfl
theorem tA_1 {a : Nat} (h : tA a) : cm_sh (a + 1) = (2, 0, 25, 0) := by
  unfold tA at h
  rcases h with rfl | rfl
  · rfl
  · rfl
theorem tA_2 {a : Nat} (h : tA a) : cm_sh (a + 2) = (2, 0, 25, 0) := by
  unfold tA at h
  rcases h with rfl | rfl
  · rfl
  · rfl
theorem tA_3 {a : Nat} (h : tA a) : cm_sh (a + 3) = (0, 4, 2, 0) := by
  unfold tA at h
  rcases h with rfl | rfl
  · rfl
  · rfl
theorem tA_4 {a : Nat} (h : tA a) : cm_sh (a + 4) = (0, 4, 2, 0) := by
  unfold tA at h
  rcases h with rfl | rfl
  · rfl
  · rfl
def qA (a : Nat) : Prop := a = 54 ∨ a = 55 ∨ a = 59 ∨ a = 60 ∨ (∃ i, i < 6 ∧ a = 127 + 8 * i) ∨ (∃ i, i < 6 ∧ a = 128 + 8 * i)
theorem qA_lt {a : Nat} (h : qA a) (n : Nat) (hn : n < 1) : a + n < cm_n := by
  unfold qA at h
  rcases h with rfl | rfl | rfl | rfl | ⟨i, hi, rfl⟩ | ⟨i, hi, rfl⟩ <;> (unfold cm_n; omega)
theorem qA_0 {a : Nat} (h : qA a) : cm_sh a = (0, 4, 2, 0) := by
  unfold qA at h
  rcases h with rfl | rfl | rfl | rfl | ⟨i, hi, rfl⟩ | ⟨i, hi, rfl⟩
  · rfl
  · rfl
  · rfl
  · rfl
  · exact (show ∀ i, i < 6 → cm_sh (127 + 8 * i) = (0, 4, 2, 0) by decide +kernel) i hi
  · exact (show ∀ i, i < 6 → cm_sh (128 + 8 * i) = (0, 4, 2, 0) by decide +kernel) i hi
def fA (a : Nat) : Prop := (∃ i, i < 6 ∧ a = 121 + 8 * i)
theorem fA_lt {a : Nat} (h : fA a) (n : Nat) (hn : n < 8) : a + n < cm_n := by
  unfold fA at h
  obtain ⟨i, hi, rfl⟩ := h
  unfold cm_n
  omega
theorem fA_0 {a : Nat} (h : fA a) : cm_sh a = (0, 2, 8, 0) := by
  unfold fA at h
  obtain ⟨i, hi, rfl⟩ := h
  exact (show ∀ i, i < 6 → cm_sh (121 + 8 * i) = (0, 2, 8, 0) by decide +kernel) i hi
theorem fA_1 {a : Nat} (h : fA a) : cm_sh (a + 1) = (1, 0, 24, 0) := by
  unfold fA at h
  obtain ⟨i, hi, rfl⟩ := h
  exact (show ∀ i, i < 6 → cm_sh (121 + 8 * i + 1) = (1, 0, 24, 0) by decide +kernel) i hi
theorem fA_2 {a : Nat} (h : fA a) : cm_sh (a + 2) = (2, 0, 24, 0) := by
  unfold fA at h
  obtain ⟨i, hi, rfl⟩ := h
  exact (show ∀ i, i < 6 → cm_sh (121 + 8 * i + 2) = (2, 0, 24, 0) by decide +kernel) i hi
theorem fA_3 {a : Nat} (h : fA a) : cm_sh (a + 3) = (2, 0, 24, 0) := by
  unfold fA at h
  obtain ⟨i, hi, rfl⟩ := h
  exact (show ∀ i, i < 6 → cm_sh (121 + 8 * i + 3) = (2, 0, 24, 0) by decide +kernel) i hi
theorem fA_4 {a : Nat} (h : fA a) : cm_sh (a + 4) = (2, 0, 24, 0) := by
  unfold fA at h
  obtain ⟨i, hi, rfl⟩ := h
  exact (show ∀ i, i < 6 → cm_sh (121 + 8 * i + 4) = (2, 0, 24, 0) by decide +kernel) i hi
theorem fA_5 {a : Nat} (h : fA a) : cm_sh (a + 5) = (2, 0, 24, 0) := by
  unfold fA at h
  obtain ⟨i, hi, rfl⟩ := h
  exact (show ∀ i, i < 6 → cm_sh (121 + 8 * i + 5) = (2, 0, 24, 0) by decide +kernel) i hi
theorem fA_6 {a : Nat} (h : fA a) : cm_sh (a + 6) = (0, 4, 2, 0) := by
  unfold fA at h
  obtain ⟨i, hi, rfl⟩ := h
  exact (show ∀ i, i < 6 → cm_sh (121 + 8 * i + 6) = (0, 4, 2, 0) by decide +kernel) i hi
theorem fA_7 {a : Nat} (h : fA a) : cm_sh (a + 7) = (0, 4, 2, 0) := by
  unfold fA at h
  obtain ⟨i, hi, rfl⟩ := h
  exact (show ∀ i, i < 6 → cm_sh (121 + 8 * i + 7) = (0, 4, 2, 0) by decide +kernel) i hi
theorem vA.row {a : Nat} (h : vA a) : rA (a + 3) := by
  rcases h with rfl | ⟨i, hi, rfl⟩
  · exact Or.inl rfl
  · exact Or.inr ⟨i, hi, by omega⟩
theorem vA_i {i : Nat} (h : i < 6) : vA (61 + 10 * i) := Or.inr ⟨i, h, rfl⟩
theorem fA_i {i : Nat} (h : i < 6) : fA (121 + 8 * i) := ⟨i, h, rfl⟩
theorem tA.now {a : Nat} (h : tA a) : qA (a + 3) := by
  rcases h with rfl | rfl
  · exact Or.inl rfl
  · exact Or.inr (Or.inr (Or.inl rfl))
theorem tA.lasting {a : Nat} (h : tA a) : qA (a + 4) := by
  rcases h with rfl | rfl
  · exact Or.inr (Or.inl rfl)
  · exact Or.inr (Or.inr (Or.inr (Or.inl rfl)))
theorem fA.now {a : Nat} (h : fA a) : qA (a + 6) := by
  obtain ⟨i, hi, rfl⟩ := h
  exact Or.inr (Or.inr (Or.inr (Or.inr (Or.inl ⟨i, hi, by omega⟩))))
theorem fA.lasting {a : Nat} (h : fA a) : qA (a + 7) := by
  obtain ⟨i, hi, rfl⟩ := h
  exact Or.inr (Or.inr (Or.inr (Or.inr (Or.inr ⟨i, hi, by omega⟩))))
theorem vA.ge {a : Nat} (h : vA a) : 36 ≤ a := by rcases h with rfl | ⟨i, hi, rfl⟩ <;> omega
theorem rA.ge {a : Nat} (h : rA a) : 39 ≤ a := by rcases h with rfl | ⟨i, hi, rfl⟩ <;> omega
