/-! words of choices; what is found -/
theorem bL_ext {x y : Int64} (h : ∀ i, i < 64 → x.toBitVec.getLsbD i = y.toBitVec.getLsbD i) : x = y := by
  apply Int64.toBitVec_inj.mp
  exact BitVec.eq_of_getLsbD_eq h
theorem bL_lsb (a i : Nat) (hi : i < 64) : (lN a).toBitVec.getLsbD i = a.testBit i := by
  show (BitVec.ofNat 64 a).getLsbD i = _
  rw [BitVec.getLsbD_ofNat]
  simp [hi]
theorem bL_or (a b : Nat) : lN a ||| lN b = lN (a ||| b) := by
  apply bL_ext
  intro i hi
  rw [bL_lsb _ _ hi, Nat.testBit_or]
  show ((lN a).toBitVec ||| (lN b).toBitVec).getLsbD i = _
  rw [BitVec.getLsbD_or, bL_lsb _ _ hi, bL_lsb _ _ hi]
theorem bL_k : ∀ n, n < 64 → (((nI n).toInt64 &&& 63).toBitVec.smod 64).toNat = n := by decide +kernel
theorem bL_shl (a k : Nat) (hk : k < 64) : lN a <<< ((nI k).toInt64 &&& 63) = lN (a <<< k) := by
  apply bL_ext
  intro i hi
  rw [bL_lsb _ _ hi, Nat.testBit_shiftLeft]
  show ((lN a).toBitVec <<< (((nI k).toInt64 &&& 63).toBitVec.smod 64).toNat).getLsbD i = _
  rw [bL_k k hk, BitVec.getLsbD_shiftLeft, decide_eq_true hi]
  by_cases h : i < k
  · simp [h]
    omega
  · rw [bL_lsb _ _ (by omega)]
    simp [h]
    intro _
    omega
theorem bL_shr (a k : Nat) (ha : a < 2 ^ 63) (hk : k < 64) : lN a >>> ((nI k).toInt64 &&& 63) = lN (a >>> k) := by
  apply bL_ext
  intro i hi
  rw [bL_lsb _ _ hi, Nat.testBit_shiftRight]
  show ((lN a).toBitVec.sshiftRight (((nI k).toInt64 &&& 63).toBitVec.smod 64).toNat).getLsbD i = _
  rw [bL_k k hk, BitVec.getLsbD_sshiftRight]
  have hm : (lN a).toBitVec.msb = false := by
    rw [BitVec.msb_eq_getLsbD_last, bL_lsb _ _ (by decide)]
    exact Nat.testBit_lt_two_pow ha
  rw [decide_eq_false (by omega)]
  by_cases h : k + i < 64
  · rw [if_pos h, bL_lsb _ _ h]
    rfl
  · rw [if_neg h, hm, Nat.testBit_lt_two_pow (Nat.lt_of_lt_of_le ha (Nat.pow_le_pow_right (by decide) (by omega)))]
    rfl
section MLR
variable {K : mm_K} {d : Nat} {y : MethodName} {cc : ByteArray} {nL : Nat} {rt : Option FieldType} {pc : Nat} {L : List (Nat × Value)} {st : List Value} {h : mm_H} {kc ks : Nat} {Q : Option Value → mm_H → Prop}
theorem mn_lor {a b : Nat} (hd : decode cc pc = .ok (.lor, 1)) (k : mm_V K d y cc nL rt (pc + 1) L (.long (lN (a ||| b)) :: st) h kc ks Q) : mm_V K d y cc nL rt (pc) L (.long (lN b) :: .long (lN a) :: st) h kc ks Q := mm_lor hd (by rw [bL_or]; exact k)
theorem mn_lshl {a b : Nat} (hd : decode cc pc = .ok (.lshl, 1)) (hb : b < 64) (k : mm_V K d y cc nL rt (pc + 1) L (.long (lN (a <<< b)) :: st) h kc ks Q) : mm_V K d y cc nL rt (pc) L (.int (nI b) :: .long (lN a) :: st) h kc ks Q := mm_lshl hd (by rw [bL_shl _ _ hb]; exact k)
theorem mn_lshr {a b : Nat} (hd : decode cc pc = .ok (.lshr, 1)) (ha : a < 2 ^ 63) (hb : b < 64) (k : mm_V K d y cc nL rt (pc + 1) L (.long (lN (a >>> b)) :: st) h kc ks Q) : mm_V K d y cc nL rt (pc) L (.int (nI b) :: .long (lN a) :: st) h kc ks Q := mm_lshr hd (by rw [bL_shr _ _ ha hb]; exact k)
end MLR
/-- the choices of word v, the first n of them -/
def wd_ (cs : List Nat) (v : Nat) : Nat → Nat
  | 0 => 0
  | n + 1 => if v * 12 + n < cs.length then wd_ cs v n ||| (cs.getD (v * 12 + n) 0) <<< (n * 5) else wd_ cs v n
theorem wd_lt {cs : List Nat} {v : Nat} (h : ∀ i, i < cs.length → cs.getD i 0 < 32) : ∀ n, wd_ cs v n < 2 ^ (n * 5)
  | 0 => by show 0 < 2 ^ 0; decide
  | n + 1 => by
    have h1 := wd_lt (v := v) h n
    have h2 : wd_ cs v n < 2 ^ ((n + 1) * 5) := Nat.lt_of_lt_of_le h1 (Nat.pow_le_pow_right (by decide) (by omega))
    show (if v * 12 + n < cs.length then _ else _) < _
    split
    · next c =>
      refine mk_or_lt h2 ?_
      rw [Nat.shiftLeft_eq, show (n + 1) * 5 = 5 + n * 5 from by omega, Nat.pow_add]
      exact Nat.mul_lt_mul_of_pos_right (h _ c) (Nat.two_pow_pos _)
    · exact h2
/-- behind the choices' end nothing comes -/
theorem wd_end {cs : List Nat} {v n : Nat} (h : cs.length ≤ v * 12 + n) : ∀ d, wd_ cs v (n + d) = wd_ cs v n
  | 0 => rfl
  | d + 1 => by
    show (if v * 12 + (n + d) < cs.length then _ else _) = _
    rw [if_neg (by omega)]
    exact wd_end h d
theorem wd_get {cs : List Nat} {v : Nat} (h : ∀ i, i < cs.length → cs.getD i 0 < 32) : ∀ n j, j < n → (wd_ cs v n >>> (j * 5)) &&& 31 = if v * 12 + j < cs.length then cs.getD (v * 12 + j) 0 else 0
  | 0, j, hj => by omega
  | n + 1, j, hj => by
    have h1 := wd_lt (v := v) h n
    have b31 : ∀ i, Nat.testBit 31 i = decide (i < 5) := fun i => by
      rw [show (31 : Nat) = 2 ^ 5 - 1 from rfl, Nat.testBit_two_pow_sub_one]
    show ((if v * 12 + n < cs.length then _ else _) >>> (j * 5)) &&& 31 = _
    by_cases c : v * 12 + n < cs.length
    · rw [if_pos c]
      by_cases e : j = n
      · subst e
        rw [if_pos c]
        apply Nat.eq_of_testBit_eq
        intro i
        rw [Nat.testBit_and, Nat.testBit_shiftRight, Nat.testBit_or, Nat.testBit_shiftLeft, b31, Nat.testBit_lt_two_pow (Nat.lt_of_lt_of_le h1 (Nat.pow_le_pow_right (by decide) (by omega))), show j * 5 + i - j * 5 = i from by omega]
        by_cases hi : i < 5
        · simp [hi]
        · rw [decide_eq_false hi, Bool.and_false]
          exact (Nat.testBit_lt_two_pow (Nat.lt_of_lt_of_le (h _ c) (show 2 ^ 5 ≤ 2 ^ i from Nat.pow_le_pow_right (by decide) (by omega)))).symm
      · rw [← wd_get h n j (by omega)]
        apply Nat.eq_of_testBit_eq
        intro i
        rw [Nat.testBit_and, Nat.testBit_and, Nat.testBit_shiftRight, Nat.testBit_shiftRight, Nat.testBit_or, Nat.testBit_shiftLeft, b31]
        by_cases hi : i < 5
        · rw [decide_eq_false (show ¬ j * 5 + i ≥ n * 5 by omega)]
          simp
        · rw [decide_eq_false hi, Bool.and_false, Bool.and_false]
    · rw [if_neg c]
      by_cases e : j = n
      · subst e
        rw [if_neg c]
        have : wd_ cs v j >>> (j * 5) = 0 := by
          rw [Nat.shiftRight_eq_div_pow]
          exact Nat.div_eq_of_lt h1
        rw [this, Nat.zero_and]
      · exact wd_get h n j (by omega)
/-- what is found: strains and words -/
def fo1 (X : Nat → Nat → Int32) (Y : Nat → Nat → Int64) (i : Nat) (x : gL) : Prop := X 22 i = nI (sn_ x.2.1.1) ∧ ∀ v, v < 4 → Y 21 (i * 4 + v) = lN (wd_ x.1 v 12)
def fo2 (X : Nat → Nat → Int32) (Y : Nat → Nat → Int64) (R : List gL) : Prop := X 20 4 = nI R.length ∧ R.length ≤ 1000 ∧ ∀ i x, R[i]? = some x → fo1 X Y i x
/-- a leaf's choices, forms are such as fit -/
def lk_ (x : gL) : Prop := x.1.length ≤ 48 ∧ (∀ i, i < x.1.length → x.1.getD i 0 < 32) ∧ sn_ x.2.1.1 ≤ 127
theorem get_app {α : Type} {R : List α} {x y : α} {i : Nat} (h : (R ++ [x])[i]? = some y) : R[i]? = some y ∨ (i = R.length ∧ y = x) := by
  by_cases c : i < R.length
  · rw [List.getElem?_append_left c] at h; exact Or.inl h
  · rw [List.getElem?_append_right (by omega)] at h
    have : i - R.length = 0 := by
      by_cases z : i - R.length = 0
      · exact z
      · rw [List.getElem?_eq_none (by show 1 ≤ _; omega)] at h; cases h
    rw [this] at h
    exact Or.inr ⟨by omega, (Option.some.inj h).symm⟩
theorem get_lt {α : Type} {R : List α} {y : α} {i : Nat} (h : R[i]? = some y) : i < R.length := by
  by_cases c : i < R.length
  · exact c
  · rw [List.getElem?_eq_none (by omega)] at h; cases h
