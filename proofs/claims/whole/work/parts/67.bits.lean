/-! masks of places: what lies behind, what lies before -/
def aft_ (T : Nat → Nat) (a pl : Nat) : Nat → Nat
  | 0 => 0
  | n + 1 => aft_ T a pl n ||| (if pl.testBit n = true then T (a + n) else 0)
def bef_ (T : Nat → Nat) (a pl : Nat) : Nat → Nat
  | 0 => 0
  | n + 1 => bef_ T a pl n ||| (if T (a + n) &&& pl ≠ 0 then 2 ^ n else 0)
theorem aft_bit (T : Nat → Nat) (a pl m : Nat) : ∀ n, (aft_ T a pl n).testBit m = true ↔ ∃ q, q < n ∧ pl.testBit q = true ∧ (T (a + q)).testBit m = true
  | 0 => by
    rw [show aft_ T a pl 0 = 0 from rfl, Nat.zero_testBit]
    constructor
    · intro h; cases h
    · rintro ⟨q, h, -⟩; omega
  | n + 1 => by
    rw [show aft_ T a pl (n + 1) = aft_ T a pl n ||| (if pl.testBit n = true then T (a + n) else 0) from rfl, Nat.testBit_or, Bool.or_eq_true, aft_bit T a pl m n]
    constructor
    · rintro (⟨q, h1, h2⟩ | h)
      · exact ⟨q, by omega, h2⟩
      · by_cases hp : pl.testBit n = true
        · rw [if_pos hp] at h
          exact ⟨n, by omega, hp, h⟩
        · rw [if_neg hp, Nat.zero_testBit] at h
          cases h
    · rintro ⟨q, h1, h2, h3⟩
      by_cases hq : q = n
      · subst hq
        right
        rw [if_pos h2]
        exact h3
      · exact Or.inl ⟨q, by omega, h2, h3⟩
theorem bef_bit (T : Nat → Nat) (a pl q : Nat) : ∀ n, (bef_ T a pl n).testBit q = true ↔ q < n ∧ ∃ m, (T (a + q)).testBit m = true ∧ pl.testBit m = true
  | 0 => by
    rw [show bef_ T a pl 0 = 0 from rfl, Nat.zero_testBit]
    constructor
    · intro h; cases h
    · rintro ⟨h, -⟩; omega
  | n + 1 => by
    rw [show bef_ T a pl (n + 1) = bef_ T a pl n ||| (if T (a + n) &&& pl ≠ 0 then 2 ^ n else 0) from rfl, Nat.testBit_or, Bool.or_eq_true, bef_bit T a pl q n]
    have key : (if T (a + n) &&& pl ≠ 0 then 2 ^ n else 0).testBit q = true ↔ q = n ∧ ∃ m, (T (a + q)).testBit m = true ∧ pl.testBit m = true := by
      by_cases hz : T (a + n) &&& pl ≠ 0
      · rw [if_pos hz, Nat.testBit_two_pow]
        obtain ⟨m, hm⟩ := mk_ne0.mp hz
        rw [Nat.testBit_and, Bool.and_eq_true] at hm
        constructor
        · intro h
          have e : n = q := by simpa using h
          subst e
          exact ⟨rfl, m, hm⟩
        · rintro ⟨e, -⟩
          simp [e]
      · rw [if_neg hz, Nat.zero_testBit]
        constructor
        · intro h; cases h
        · rintro ⟨e, m, h1, h2⟩
          subst e
          exact absurd (mk_ne0.mpr ⟨m, by rw [Nat.testBit_and, h1, h2]; rfl⟩) hz
    rw [key]
    constructor
    · rintro (⟨h1, h2⟩ | ⟨h1, h2⟩)
      · exact ⟨by omega, h2⟩
      · exact ⟨by omega, h2⟩
    · rintro ⟨h1, h2⟩
      by_cases hq : q = n
      · exact Or.inr ⟨hq, h2⟩
      · exact Or.inl ⟨by omega, h2⟩
theorem aft_lt {T : Nat → Nat} {a pl N : Nat} : ∀ n, (∀ q, q < n → T (a + q) < 2 ^ N) → aft_ T a pl n < 2 ^ N
  | 0, _ => Nat.two_pow_pos N
  | n + 1, h => by
    refine mk_or_lt (aft_lt n (fun q hq => h q (by omega))) ?_
    split
    · exact h n (by omega)
    · exact Nat.two_pow_pos N
theorem bef_lt {T : Nat → Nat} {a pl N : Nat} : ∀ n, n ≤ N → bef_ T a pl n < 2 ^ N
  | 0, _ => Nat.two_pow_pos N
  | n + 1, h => by
    refine mk_or_lt (bef_lt n (by omega)) ?_
    split
    · exact Nat.pow_lt_pow_right (by decide) (by omega)
    · exact Nat.two_pow_pos N
/-- the bit asked for as Java asks -/
theorem bit_1 (m p : Nat) : (m >>> p) &&& 1 = if m.testBit p = true then 1 else 0 := by
  have h : m.testBit p = (1 &&& (m >>> p) != 0) := rfl
  have e : (m >>> p) &&& 1 = (m >>> p) % 2 := Nat.and_one_is_mod _
  rw [h, Nat.and_comm 1, e]
  have : (m >>> p) % 2 < 2 := Nat.mod_lt _ (by decide)
  by_cases hz : (m >>> p) % 2 = 0
  · rw [hz]; rfl
  · have e1 : (m >>> p) % 2 = 1 := by omega
    rw [e1]; rfl
theorem pow_lt27 {p : Nat} (h : p ≤ 26) : 2 ^ p < 2 ^ 27 := Nat.pow_lt_pow_right (by decide) (by omega)
