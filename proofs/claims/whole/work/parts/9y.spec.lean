/-! followers -/
abbrev fE : Type := Int × (Nat × Nat) × (Nat × Nat)
abbrev fS : Type := List fE × (Nat × Nat) × Option Int
def fwi_ (how n j : Nat) : Nat := if how % 2 = 1 then n - 1 - j else j
def fwp_ (how : Nat) (V da : Nat → Nat) (i : Nat) : Nat := V i * da i * (if how / 4 % 2 = 1 then 2 else 1)
def fwv_ (so : Nat → Nat) (pi : Nat → Int) (s : fS) (i : Nat) : Option Int := if so i = 1 ∧ s.2.2 = none then some (pi i) else s.2.2
def fwh_ (how : Nat) (pi : Nat → Int) (pv : Option Int) (i : Nat) : Int := if how / 2 % 2 = 1 then 2 * pv.getD 0 - pi i else pi i
/-- what follows, after j symbols -/
def fwst_ (so : Nat → Nat) (pi : Nat → Int) (V ua da : Nat → Nat) (n how behind : Nat) (higher : Int) : Nat → fS
  | 0 => ([], (behind, 1), none)
  | j + 1 =>
    if so (fwi_ how n j) = 3 then fwst_ so pi V ua da n how behind higher j
    else ((fwst_ so pi V ua da n how behind higher j).1 ++ [(if so (fwi_ how n j) = 1 then fwh_ how pi (fwv_ so pi (fwst_ so pi V ua da n how behind higher j) (fwi_ how n j)) (fwi_ how n j) + higher else 1000, (fwst_ so pi V ua da n how behind higher j).2.1, red (fwp_ how V da (fwi_ how n j)) (ua (fwi_ how n j)))],
      tAd (fwst_ so pi V ua da n how behind higher j).2.1 (fwp_ how V da (fwi_ how n j)) (ua (fwi_ how n j)), fwv_ so pi (fwst_ so pi V ua da n how behind higher j) (fwi_ how n j))
section FOS
variable {so : Nat → Nat} {pi : Nat → Int} {V ua da : Nat → Nat} {n how behind : Nat} {higher : Int}
theorem fwlt_ {j : Nat} (h : j < n) : fwi_ how n j < n := by unfold fwi_; split <;> omega
theorem fwB_ (h : sz_ V ua da n) {i : Nat} (hi : i < n) : fwp_ how V da i ≤ 1944000 * ua i := by
  have h1 := sz_B h hi
  unfold fwp_
  split
  · omega
  · omega
theorem fwk_ (hb : behind ≤ 100000) (h : sz_ V ua da n) : ∀ j, j ≤ n → (fwst_ so pi V ua da n how behind higher j).1.length ≤ j ∧ tmk_ (100000 + 1944000 * j) (fwst_ so pi V ua da n how behind higher j).2.1
  | 0, _ => ⟨Nat.le_refl _, ⟨Nat.one_pos, ⟨_, (Nat.one_mul _).symm⟩, by show behind ≤ 100000 * 1; omega⟩⟩
  | j + 1, hj => by
    obtain ⟨h1, h2⟩ := fwk_ hb h j (by omega)
    unfold fwst_
    split
    · exact ⟨by omega, tmk_le h2 (by omega)⟩
    · refine ⟨by rw [List.length_append]; show _ + 1 ≤ _; omega, ?_⟩
      have hi := fwlt_ (how := how) (show j < n by omega)
      have := tmk_A h2 (h _ hi).2.1.1 (h _ hi).2.1.2 (fwB_ h hi (how := how))
      rw [show 100000 + 1944000 * (j + 1) = 100000 + 1944000 * j + 1944000 from by omega]
      exact this
end FOS
/-- a follower's entries -/
def flw_ (X : Nat → Nat → Int32) (Y : Nat → Nat → Int64) (b : Nat) (l : List fE) : Prop := X b 7 = nI l.length ∧ ∀ i e, l[i]? = some e → X (b + 1) i = Int32.ofInt e.1 ∧ Y (b + 2) i = lN e.2.1.1 ∧ Y (b + 3) i = lN e.2.1.2 ∧ Y (b + 4) i = lN e.2.2.1 ∧ Y (b + 5) i = lN e.2.2.2
theorem flw_x {X X' : Nat → Nat → Int32} {Y Y' : Nat → Nat → Int64} {b : Nat} {l : List fE} (h : flw_ X Y b l) (ex : ∀ c i, (c = b ∧ i = 7) ∨ c = b + 1 → X' c i = X c i) (ey : ∀ c i, b + 2 ≤ c → c ≤ b + 5 → Y' c i = Y c i) : flw_ X' Y' b l := ⟨(ex _ _ (Or.inl ⟨rfl, rfl⟩)).trans h.1, fun i e he => by
  obtain ⟨h1, h2, h3, h4, h5⟩ := h.2 i e he
  exact ⟨(ex _ _ (Or.inr rfl)).trans h1, (ey _ _ (by omega) (by omega)).trans h2, (ey _ _ (by omega) (by omega)).trans h3, (ey _ _ (by omega) (by omega)).trans h4, (ey _ _ (by omega) (by omega)).trans h5⟩⟩
theorem flw_s {X : Nat → Nat → Int32} {Y : Nat → Nat → Int64} {b : Nat} {l : List fE} {e : fE} (h : flw_ X Y b l) : flw_ (xu (xu X (b + 1) l.length (Int32.ofInt e.1)) b 7 (nI (l.length + 1))) (xu (xu (xu (xu Y (b + 2) l.length (lN e.2.1.1)) (b + 3) l.length (lN e.2.1.2)) (b + 4) l.length (lN e.2.2.1)) (b + 5) l.length (lN e.2.2.2)) b (l ++ [e]) := by
  refine ⟨?_, fun i x hx => ?_⟩
  · rw [List.length_append]; exact xu_s
  · rcases get_app hx with h1 | ⟨h1, h2⟩
    · have h3 := get_lt h1
      obtain ⟨g1, g2, g3, g4, g5⟩ := h.2 i x h1
      refine ⟨?_, ?_, ?_, ?_, ?_⟩
      · rw [xu_a (by omega), xu_i (by omega)]; exact g1
      · rw [xu_a (by omega), xu_a (by omega), xu_a (by omega), xu_i (by omega)]; exact g2
      · rw [xu_a (by omega), xu_a (by omega), xu_i (by omega), xu_a (by omega)]; exact g3
      · rw [xu_a (by omega), xu_i (by omega), xu_a (by omega), xu_a (by omega)]; exact g4
      · rw [xu_i (by omega), xu_a (by omega), xu_a (by omega), xu_a (by omega)]; exact g5
    · subst h2
      rw [h1]
      refine ⟨?_, ?_, ?_, ?_, ?_⟩
      · rw [xu_a (by omega), xu_s]
      · rw [xu_a (by omega), xu_a (by omega), xu_a (by omega), xu_s]
      · rw [xu_a (by omega), xu_a (by omega), xu_s]
      · rw [xu_a (by omega), xu_s]
      · rw [xu_s]
theorem i32_fh {how i : Nat} {pi : Nat → Int} {pv : Option Int} (h : how / 2 % 2 = 1) : nI 2 * Int32.ofInt (pv.getD 0) - Int32.ofInt (pi i) = Int32.ofInt (fwh_ how pi pv i) := by
  unfold fwh_
  rw [if_pos h, Int32.ofInt_sub, Int32.ofInt_mul]
  rfl
theorem and_1 (a : Nat) : a &&& 1 = a % 2 := Nat.and_two_pow_sub_one_eq_mod a 1
theorem and_2 (a : Nat) : a &&& 2 = 2 * (a / 2 % 2) := by
  apply Nat.eq_of_testBit_eq
  intro i
  rw [Nat.testBit_and, show (2 : Nat) = 2 ^ 1 from rfl, Nat.testBit_two_pow_mul, Nat.testBit_two_pow]
  rcases Nat.lt_trichotomy i 1 with c | c | c
  · have : i = 0 := by omega
    subst this; simp
  · subst c
    simp [Nat.testBit, Nat.shiftRight_eq_div_pow]
  · have h1 : ¬ 1 = i := by omega
    have h2 : (a / 2 ^ 1 % 2 ^ 1).testBit (i - 1) = false := Nat.testBit_lt_two_pow (Nat.lt_of_lt_of_le (Nat.mod_lt _ (by decide)) (Nat.pow_le_pow_right (by decide) (by omega)))
    rw [decide_eq_false h1, Bool.and_false, h2, Bool.and_false]
theorem and_4 (a : Nat) : a &&& 4 = 4 * (a / 4 % 2) := by
  apply Nat.eq_of_testBit_eq
  intro i
  rw [Nat.testBit_and, show (4 : Nat) = 2 ^ 2 from rfl, Nat.testBit_two_pow_mul, Nat.testBit_two_pow]
  rcases Nat.lt_trichotomy i 2 with c | c | c
  · have h1 : ¬ 2 = i := by omega
    rw [decide_eq_false h1, decide_eq_false (by omega)]
    simp
  · subst c
    simp [Nat.testBit, Nat.shiftRight_eq_div_pow]
  · have h1 : ¬ 2 = i := by omega
    have h2 : (a / 2 ^ 2 % 2).testBit (i - 2) = false := Nat.testBit_lt_two_pow (Nat.lt_of_lt_of_le (Nat.mod_lt _ (by decide)) (show 2 ^ 1 ≤ 2 ^ (i - 2) from Nat.pow_le_pow_right (by decide) (by omega)))
    rw [decide_eq_false h1, Bool.and_false, h2, Bool.and_false]
