/-! ligatures -/
def ptc (x : Int64) (k : Nat) : Int32 := ((x >>> ((nI (8 * k)).toInt64 &&& 63)).toInt32).toInt8.toInt32
theorem b8_ext {x y : Int32} (h : ∀ i, i < 32 → x.toBitVec.getLsbD i = y.toBitVec.getLsbD i) : x = y := bI_ext h
theorem ptc_bit {x : Int64} {k i : Nat} (hk : k < 8) (hi : i < 32) : (ptc x k).toBitVec.getLsbD i = if i < 8 then x.toBitVec.getLsbD (8 * k + i) else x.toBitVec.getLsbD (8 * k + 7) := by
  have e1 : ∀ j, j < 8 → ((x >>> ((nI (8 * k)).toInt64 &&& 63)).toInt32).toInt8.toBitVec.getLsbD j = x.toBitVec.getLsbD (8 * k + j) := by
    intro j hj
    show ((BitVec.signExtend 8 (BitVec.signExtend 32 (x.toBitVec.sshiftRight (((nI (8 * k)).toInt64 &&& 63).toBitVec.smod 64).toNat)))).getLsbD j = _
    rw [bL_k (8 * k) (by omega), BitVec.getLsbD_signExtend, decide_eq_true hj, if_pos (by omega), BitVec.getLsbD_signExtend, decide_eq_true (show j < 32 by omega), if_pos (by omega), BitVec.getLsbD_sshiftRight, decide_eq_false (by omega), if_pos (by omega)]
    simp
  show (BitVec.signExtend 32 ((x >>> ((nI (8 * k)).toInt64 &&& 63)).toInt32).toInt8.toBitVec).getLsbD i = _
  rw [BitVec.getLsbD_signExtend, decide_eq_true hi, Bool.true_and]
  by_cases c : i < 8
  · rw [if_pos c, if_pos c]
    exact e1 i c
  · rw [if_neg c, if_neg c, BitVec.msb_eq_getLsbD_last]
    exact e1 7 (by decide)
/-- as the reference takes it -/
theorem ptc_ref {x : Int64} {k : Nat} (hk : k < 8) : ((x <<< ((nI (56 - 8 * k)).toInt64 &&& 63)) >>> ((nI 56).toInt64 &&& 63)).toInt32 = ptc x k := by
  apply bI_ext
  intro i hi
  rw [ptc_bit hk hi]
  have e2 : ∀ j, j < 64 → (x <<< ((nI (56 - 8 * k)).toInt64 &&& 63)).toBitVec.getLsbD j = (!decide (j < 56 - 8 * k) && x.toBitVec.getLsbD (j - (56 - 8 * k))) := by
    intro j hj
    show (x.toBitVec <<< (((nI (56 - 8 * k)).toInt64 &&& 63).toBitVec.smod 64).toNat).getLsbD j = _
    rw [bL_k (56 - 8 * k) (by omega), BitVec.getLsbD_shiftLeft, decide_eq_true hj, Bool.true_and]
  show (BitVec.signExtend 32 ((x <<< ((nI (56 - 8 * k)).toInt64 &&& 63)).toBitVec.sshiftRight (((nI 56).toInt64 &&& 63).toBitVec.smod 64).toNat)).getLsbD i = _
  rw [bL_k 56 (by decide), BitVec.getLsbD_signExtend, decide_eq_true hi, Bool.true_and, if_pos (by omega), BitVec.getLsbD_sshiftRight, decide_eq_false (by omega)]
  by_cases c : i < 8
  · rw [if_pos c, if_pos (by omega), e2 _ (by omega), decide_eq_false (by omega), show 56 + i - (56 - 8 * k) = 8 * k + i from by omega]
    simp
  · rw [if_neg c, if_neg (by omega), BitVec.msb_eq_getLsbD_last, e2 _ (by decide), decide_eq_false (by omega), show 64 - 1 - (56 - 8 * k) = 8 * k + 7 from by omega]
    simp
def lgP (x : Int64) (n : Nat) : Prop := ∀ k, k < n → (-40) ≤ ptc x k ∧ ptc x k ≤ nI 40
def lgD (x : Int64) (n : Nat) : Prop := ∀ k, 1 ≤ k → k < n → ptc x k ≠ ptc x (k - 1)
def lgF (x : Int64) (i : Nat) : Bool := decide (ptc x i < ptc x (i - 1))
def lgS (sh n : Nat) (x : Int64) : Prop := lgD x n ∧ ¬ sh % 4 = 3 ∧ ¬ (sh / 4 % 2 = 1 ∧ lgF x (n - 1) = false)
def lgK (sh n : Nat) (x : Int64) (i : Nat) : Nat := if sh / 2 % 2 = 1 ∧ i < 2 then 3 else if i = 0 then (if decide (sh % 2 = 1) = lgF x 1 then 2 else 1) else if i < n - 1 then 2 else if sh / 8 % 2 = 1 then 1 else if sh / 4 % 2 = 1 then 2 else if lgF x (n - 1) = true then 1 else 2
theorem lgK_lt {sh n : Nat} {x : Int64} {i : Nat} : lgK sh n x i < 7 := by
  unfold lgK
  split
  · decide
  split
  · split <;> decide
  split
  · decide
  split
  · decide
  split
  · decide
  split <;> decide
def aLig (s : aS) (v sh n : Nat) (x : Int64) : Nat → aS
  | 0 => s
  | m + 1 => aPut (aLig s v sh n x m) v 1 (lgK sh n x m) (ptc x m).toInt false
theorem aLig_f {s : aS} {v sh n : Nat} {x : Int64} : ∀ m, aNv (aLig s v sh n x m) = aNv s ∧ aSz (aLig s v sh n x m) v = aSz s v + m
  | 0 => ⟨rfl, rfl⟩
  | m + 1 => by
    obtain ⟨h1, h2⟩ := aLig_f (s := s) (v := v) (sh := sh) (n := n) (x := x) m
    refine ⟨h1, ?_⟩
    show rm_up (aSz (aLig s v sh n x m)) v (aSz (aLig s v sh n x m) v + 1) v = _
    rw [rm_up_s, h2]
    rfl
theorem aLig_W {s : aS} {v sh n : Nat} {x : Int64} (hW : WF s) (hv : v < aNv s) (hp : lgP x n) (hs : aSz s v + n ≤ 24) : ∀ m, m ≤ n → WF (aLig s v sh n x m)
  | 0, _ => hW
  | m + 1, hm => by
    obtain ⟨h1, h2⟩ := aLig_f (s := s) (v := v) (sh := sh) (n := n) (x := x) m
    have hp2 := (i32_pi (hp m (by omega))).2
    exact WF_put (aLig_W hW hv hp hs m (by omega)) (by rw [h1]; exact hv) (by rw [h2]; omega) ⟨by decide, by decide⟩ lgK_lt hp2 (fun z => absurd rfl z) (fun z => absurd z (by decide))
theorem and_3 (a : Nat) : a &&& 3 = a % 4 := Nat.and_two_pow_sub_one_eq_mod a 2
theorem and_8 (a : Nat) : a &&& 8 = 8 * (a / 8 % 2) := by
  apply Nat.eq_of_testBit_eq
  intro i
  rw [Nat.testBit_and, show (8 : Nat) = 2 ^ 3 from rfl, Nat.testBit_two_pow_mul, Nat.testBit_two_pow]
  rcases Nat.lt_trichotomy i 3 with c | c | c
  · have h1 : ¬ 3 = i := by omega
    rw [decide_eq_false h1, decide_eq_false (by omega)]
    simp
  · subst c
    simp [Nat.testBit, Nat.shiftRight_eq_div_pow]
  · have h1 : ¬ 3 = i := by omega
    have h2 : (a / 2 ^ 3 % 2).testBit (i - 3) = false := Nat.testBit_lt_two_pow (Nat.lt_of_lt_of_le (Nat.mod_lt _ (by decide)) (show 2 ^ 1 ≤ 2 ^ (i - 3) from Nat.pow_le_pow_right (by decide) (by omega)))
    rw [decide_eq_false h1, Bool.and_false, h2, Bool.and_false]
