/-! masks: numbers as sets of places -/
theorem bI_ext {x y : Int32} (h : ∀ i, i < 32 → x.toBitVec.getLsbD i = y.toBitVec.getLsbD i) : x = y := by
  apply Int32.toBitVec_inj.mp
  exact BitVec.eq_of_getLsbD_eq h
theorem bI_lsb (a i : Nat) (hi : i < 32) : (nI a).toBitVec.getLsbD i = a.testBit i := by
  show (BitVec.ofNat 32 a).getLsbD i = _
  rw [BitVec.getLsbD_ofNat]
  simp [hi]
theorem bI_and (a b : Nat) : nI a &&& nI b = nI (a &&& b) := by
  apply bI_ext
  intro i hi
  rw [bI_lsb _ _ hi, Nat.testBit_and]
  show ((nI a).toBitVec &&& (nI b).toBitVec).getLsbD i = _
  rw [BitVec.getLsbD_and, bI_lsb _ _ hi, bI_lsb _ _ hi]
theorem bI_or (a b : Nat) : nI a ||| nI b = nI (a ||| b) := by
  apply bI_ext
  intro i hi
  rw [bI_lsb _ _ hi, Nat.testBit_or]
  show ((nI a).toBitVec ||| (nI b).toBitVec).getLsbD i = _
  rw [BitVec.getLsbD_or, bI_lsb _ _ hi, bI_lsb _ _ hi]
theorem bI_k : ∀ n, n < 32 → ((nI n &&& 31).toBitVec.smod 32).toNat = n := by decide +kernel
theorem bI_shl (a k : Nat) (hk : k < 32) : nI a <<< (nI k &&& 31) = nI (a <<< k) := by
  apply bI_ext
  intro i hi
  rw [bI_lsb _ _ hi, Nat.testBit_shiftLeft]
  show ((nI a).toBitVec <<< ((nI k &&& 31).toBitVec.smod 32).toNat).getLsbD i = _
  rw [bI_k k hk, BitVec.getLsbD_shiftLeft, decide_eq_true hi]
  by_cases h : i < k
  · simp [h]
    omega
  · rw [bI_lsb _ _ (by omega)]
    simp [h]
    intro _
    omega
theorem bI_shr (a k : Nat) (ha : a < 2 ^ 31) (hk : k < 32) : nI a >>> (nI k &&& 31) = nI (a >>> k) := by
  apply bI_ext
  intro i hi
  rw [bI_lsb _ _ hi, Nat.testBit_shiftRight]
  show ((nI a).toBitVec.sshiftRight ((nI k &&& 31).toBitVec.smod 32).toNat).getLsbD i = _
  rw [bI_k k hk, BitVec.getLsbD_sshiftRight]
  have hm : (nI a).toBitVec.msb = false := by
    rw [BitVec.msb_eq_getLsbD_last, bI_lsb _ _ (by decide)]
    exact Nat.testBit_lt_two_pow (by simpa using ha)
  by_cases h : k + i < 32
  · rw [if_pos h, bI_lsb _ _ h]
    simp
    omega
  · rw [if_neg h, hm]
    have : a.testBit (k + i) = false := Nat.testBit_lt_two_pow (Nat.lt_of_lt_of_le ha (Nat.pow_le_pow_right (by decide) (by omega)))
    rw [this]
    simp
theorem bI_one (p : Nat) : (1 : Nat) <<< p = 2 ^ p := by rw [Nat.one_shiftLeft]
/-- a number below 2 ^ 27 as the set of its bits -/
theorem mk_lt {m n : Nat} (h : ∀ i, n ≤ i → m.testBit i = false) : m < 2 ^ n := Nat.lt_pow_two_of_testBit m h
theorem mk_ext {a b : Nat} (h : ∀ i, a.testBit i = b.testBit i) : a = b := Nat.eq_of_testBit_eq h
theorem mk_ne0 {m : Nat} : m ≠ 0 ↔ ∃ i, m.testBit i = true := by
  constructor
  · intro h
    exact Nat.exists_testBit_of_ne_zero h
  · rintro ⟨i, hi⟩ e
    rw [e, Nat.zero_testBit] at hi
    cases hi
theorem mk_pow (p i : Nat) : (2 ^ p).testBit i = decide (p = i) := Nat.testBit_two_pow
theorem mk_or_lt {a b n : Nat} (ha : a < 2 ^ n) (hb : b < 2 ^ n) : a ||| b < 2 ^ n := Nat.or_lt_two_pow ha hb
theorem mk_and_lt {a b n : Nat} (ha : a < 2 ^ n) : a &&& b < 2 ^ n := Nat.lt_of_le_of_lt Nat.and_le_left ha
