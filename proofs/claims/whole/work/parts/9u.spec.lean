/-! fractions -/
section FRAC
/-- Euclid's steps end within n -/
def gs : Nat → Nat → Nat → Prop
  | 0, _, y => y = 0
  | n + 1, x, y => y = 0 ∨ gs n y (x % y)
theorem gs_s {n x y : Nat} (h : gs n x y) : gs (n + 1) x y := by
  induction n generalizing x y with
  | zero => exact Or.inl h
  | succ n ih =>
    rcases h with h | h
    · exact Or.inl h
    · exact Or.inr (ih h)
theorem gs_lt : ∀ (k x y : Nat), y < 2 ^ k → gs (2 * k) x y := by
  intro k
  induction k with
  | zero => intro x y h; show y = 0; have : y < 1 := h; omega
  | succ k ih =>
    intro x y h
    show y = 0 ∨ gs (2 * k + 1) y (x % y)
    by_cases h0 : y = 0
    · exact Or.inl h0
    · right
      show x % y = 0 ∨ gs (2 * k) (x % y) (y % (x % y))
      by_cases h1 : x % y = 0
      · exact Or.inl h1
      · right
        apply ih
        have h2 : x % y < y := Nat.mod_lt _ (by omega)
        have h3 : y % (x % y) < x % y := Nat.mod_lt _ (by omega)
        have h4 : (x % y) * (y / (x % y)) + y % (x % y) = y := Nat.div_add_mod _ _
        have h5 : 1 ≤ y / (x % y) := Nat.div_pos (Nat.le_of_lt h2) (by omega)
        have h6 : (x % y) * 1 ≤ (x % y) * (y / (x % y)) := Nat.mul_le_mul_left _ h5
        have h7 : 2 ^ (k + 1) = 2 ^ k * 2 := Nat.pow_succ ..
        omega
/-- as Java compares -/
def cm3 (a b : Nat) : Int := if a < b then -1 else if a = b then 0 else 1
theorem cm3_neg {a b : Nat} : cm3 b a = - cm3 a b := by
  unfold cm3
  rcases Nat.lt_trichotomy a b with h | h | h
  · rw [if_pos h, if_neg (by omega), if_neg (by omega)]; rfl
  · rw [if_neg (by omega), if_pos h.symm, if_neg (by omega), if_pos h]; rfl
  · rw [if_pos h, if_neg (by omega), if_neg (by omega)]
theorem cm3_add {a b c : Nat} : cm3 (c + a) (c + b) = cm3 a b := by
  unfold cm3
  by_cases h : a < b
  · rw [if_pos h, if_pos (by omega)]
  · rw [if_neg h, if_neg (by omega)]
    by_cases h2 : a = b
    · rw [if_pos h2, if_pos (by omega)]
    · rw [if_neg h2, if_neg (by omega)]
theorem cm3_lt {a b : Nat} (h : a < b) : cm3 a b = -1 := if_pos h
theorem cm3_gt {a b : Nat} (h : b < a) : cm3 a b = 1 := by unfold cm3; rw [if_neg (by omega), if_neg (by omega)]
theorem cm3_eq {a : Nat} : cm3 a a = 0 := by unfold cm3; rw [if_neg (by omega), if_pos rfl]
/-- whole parts that differ decide -/
theorem cmq_w {p q r s : Nat} (hq : 0 < q) (hs : 0 < s) (h : p / q ≠ r / s) : cm3 (p * s) (r * q) = cm3 (p / q) (r / s) := by
  have key : ∀ {p q r s : Nat}, 0 < q → 0 < s → p / q < r / s → p * s < r * q := by
    intro p q r s hq hs h
    have h1 : p < (p / q + 1) * q := by
      have h1 := Nat.lt_mul_div_succ p hq
      rw [Nat.mul_comm] at h1
      exact h1
    have h2 : (r / s) * s ≤ r := Nat.div_mul_le_self r s
    have h3 : p * s < ((p / q + 1) * q) * s := Nat.mul_lt_mul_of_pos_right h1 hs
    have h4 : ((p / q + 1) * q) * s ≤ ((r / s) * q) * s := Nat.mul_le_mul_right _ (Nat.mul_le_mul_right _ h)
    have h5 : ((r / s) * q) * s = ((r / s) * s) * q := Nat.mul_right_comm _ _ _
    have h6 : ((r / s) * s) * q ≤ r * q := Nat.mul_le_mul_right _ h2
    omega
  rcases Nat.lt_trichotomy (p / q) (r / s) with c | c | c
  · rw [cm3_lt c, cm3_lt (key hq hs c)]
  · exact absurd c h
  · rw [cm3_gt c, cm3_gt (key hs hq c)]
/-- else what is left decides -/
theorem cmq_l {p q r s : Nat} (h : p / q = r / s) : cm3 (p * s) (r * q) = cm3 ((p % q) * s) ((r % s) * q) := by
  have h1 : p * s = (p / q) * q * s + (p % q) * s := by
    rw [← Nat.add_mul, Nat.div_add_mod']
  have h2 : r * q = (p / q) * q * s + (r % s) * q := by
    rw [h, Nat.mul_right_comm (r / s) q s, ← Nat.add_mul, Nat.div_add_mod']
  rw [h1, h2, cm3_add]
theorem cmq_0 {l q m s : Nat} (hq : 0 < q) (hs : 0 < s) (h : l = 0 ∨ m = 0) : cm3 (l * s) (m * q) = cm3 l m := by
  rcases h with h | h
  · subst h
    rw [Nat.zero_mul]
    rcases Nat.eq_zero_or_pos m with e | e
    · subst e; rw [Nat.zero_mul]
    · rw [cm3_lt e, cm3_lt (Nat.mul_pos e hq)]
  · subst h
    rw [Nat.zero_mul]
    rcases Nat.eq_zero_or_pos l with e | e
    · subst e; rw [Nat.zero_mul]
    · rw [cm3_gt e, cm3_gt (Nat.mul_pos e hs)]
theorem cmq_f {l q m s : Nat} : cm3 (l * s) (m * q) = - cm3 (q * m) (s * l) := by
  rw [Nat.mul_comm l s, Nat.mul_comm m q]
  exact cm3_neg
/-- lowest terms -/
def red (x y : Nat) : Nat × Nat := (x / Nat.gcd x y, y / Nat.gcd x y)
theorem red_k {k x y : Nat} (h : 0 < k) : red (k * x) (k * y) = red x y := by
  unfold red
  rw [Nat.gcd_mul_left, Nat.mul_div_mul_left _ _ h, Nat.mul_div_mul_left _ _ h]
theorem red_eq {x y x' y' : Nat} (hy : 0 < y) (hy' : 0 < y') (h : x * y' = x' * y) : red x y = red x' y' := by
  rw [← red_k (x := x) (y := y) hy', ← red_k (x := x') (y := y') hy, Nat.mul_comm y' x, h, Nat.mul_comm y x', Nat.mul_comm y' y]
theorem red_pos {x y : Nat} (h : 0 < y) : 0 < (red x y).2 := Nat.div_pos (Nat.gcd_le_right _ h) (Nat.gcd_pos_of_pos_right _ h)
theorem red_mul {x y : Nat} : (red x y).1 * y = x * (red x y).2 := by
  unfold red
  have h1 := Nat.gcd_dvd_left x y
  have h2 := Nat.gcd_dvd_right x y
  generalize Nat.gcd x y = g at *
  obtain ⟨a, rfl⟩ := h1
  obtain ⟨b, rfl⟩ := h2
  by_cases hg : g = 0
  · subst hg; simp
  · show g * a / g * (g * b) = g * a * (g * b / g)
    rw [Nat.mul_div_cancel_left _ (Nat.pos_of_ne_zero hg), Nat.mul_div_cancel_left _ (Nat.pos_of_ne_zero hg), Nat.mul_left_comm, Nat.mul_assoc]
theorem red_dvd {x y : Nat} : (red x y).2 ∣ y := Nat.div_dvd_of_dvd (Nat.gcd_dvd_right _ _)
theorem red_dvd1 {x y : Nat} : (red x y).1 ∣ x := Nat.div_dvd_of_dvd (Nat.gcd_dvd_left _ _)
/-- later by p / q -/
def tAd (t : Nat × Nat) (p q : Nat) : Nat × Nat := red (t.1 * q + p * t.2) (t.2 * q)
/-- as both programs do it: over the least common multiple -/
theorem tAd_lcm {t : Nat × Nat} {p q : Nat} (ht : 0 < t.2) (hq : 0 < q) : red (t.1 * (q / Nat.gcd t.2 q) + p * (t.2 / Nat.gcd t.2 q)) (t.2 / Nat.gcd t.2 q * q) = tAd t p q := by
  obtain ⟨u, d⟩ := t
  have hg : 0 < Nat.gcd d q := Nat.gcd_pos_of_pos_left _ ht
  have h1 := Nat.gcd_dvd_left d q
  have h2 := Nat.gcd_dvd_right d q
  show red (u * (q / Nat.gcd d q) + p * (d / Nat.gcd d q)) (d / Nat.gcd d q * q) = red (u * q + p * d) (d * q)
  rw [← red_k (x := u * (q / Nat.gcd d q) + p * (d / Nat.gcd d q)) hg]
  congr 1
  · rw [Nat.mul_add, Nat.mul_left_comm (d.gcd q) u, Nat.mul_left_comm (d.gcd q) p, Nat.mul_div_cancel' h1, Nat.mul_div_cancel' h2]
  · rw [← Nat.mul_assoc, Nat.mul_div_cancel' h1]
theorem tAd_red {t : Nat × Nat} {p q : Nat} (ht : 0 < t.2) (hq : 0 < q) : tAd t (red p q).1 (red p q).2 = tAd t p q := by
  have hm := red_mul (x := p) (y := q)
  have hp := red_pos (x := p) hq
  generalize red p q = r at *
  obtain ⟨a, b⟩ := r
  obtain ⟨u, d⟩ := t
  have hm : a * q = p * b := hm
  have hp : 0 < b := hp
  have ht : 0 < d := ht
  show red (u * b + a * d) (d * b) = red (u * q + p * d) (d * q)
  apply red_eq (Nat.mul_pos ht hp) (Nat.mul_pos ht hq)
  have e1 : (a * d) * (d * q) = (p * d) * (d * b) := by
    have : (a * d) * (d * q) = (a * q) * (d * d) := by
      simp only [Nat.mul_comm, Nat.mul_left_comm, Nat.mul_assoc]
    rw [this, hm]
    simp only [Nat.mul_comm, Nat.mul_left_comm, Nat.mul_assoc]
  have e2 : (u * b) * (d * q) = (u * q) * (d * b) := by
    simp only [Nat.mul_comm, Nat.mul_left_comm, Nat.mul_assoc]
  rw [Nat.add_mul, Nat.add_mul, e1, e2]
/-- all terms divide this -/
def LL_ : Nat := 80015040000
/-- a time as it can be -/
def tmk_ (S : Nat) (t : Nat × Nat) : Prop := 0 < t.2 ∧ t.2 ∣ LL_ ∧ t.1 ≤ S * t.2
theorem tmk_x {S B p q : Nat} {t : Nat × Nat} (h : tmk_ S t) (hq : 0 < q) (hd : q ∣ LL_) (hp : p ≤ B * q) : t.1 * (q / Nat.gcd t.2 q) + p * (t.2 / Nat.gcd t.2 q) ≤ (S + B) * (t.2 / Nat.gcd t.2 q * q) ∧ t.2 / Nat.gcd t.2 q * q ∣ LL_ ∧ 0 < t.2 / Nat.gcd t.2 q * q := by
  obtain ⟨u, d⟩ := t
  obtain ⟨h1, h2, h3⟩ := h
  have h1 : 0 < d := h1
  have h2 : d ∣ LL_ := h2
  have h3 : u ≤ S * d := h3
  show u * (q / Nat.gcd d q) + p * (d / Nat.gcd d q) ≤ (S + B) * (d / Nat.gcd d q * q) ∧ d / Nat.gcd d q * q ∣ LL_ ∧ _
  have hl : d / Nat.gcd d q * q = Nat.lcm d q := by
    unfold Nat.lcm
    rw [Nat.mul_comm d q, Nat.mul_div_assoc _ (Nat.gcd_dvd_left d q), Nat.mul_comm]
  have hs : d / Nat.gcd d q * q = d * (q / Nat.gcd d q) := by
    rw [hl]; unfold Nat.lcm; rw [Nat.mul_div_assoc _ (Nat.gcd_dvd_right d q)]
  refine ⟨?_, by rw [hl]; exact Nat.lcm_dvd h2 hd, Nat.mul_pos (Nat.div_pos (Nat.gcd_le_left _ h1) (Nat.gcd_pos_of_pos_left _ h1)) hq⟩
  rw [Nat.add_mul]
  refine Nat.add_le_add ?_ ?_
  · rw [hs, ← Nat.mul_assoc]
    exact Nat.mul_le_mul_right _ h3
  · rw [Nat.mul_comm p, Nat.mul_comm B]
    rw [Nat.mul_assoc, Nat.mul_comm q B]
    exact Nat.mul_le_mul_left _ hp
theorem tmk_A {S B p q : Nat} {t : Nat × Nat} (h : tmk_ S t) (hq : 0 < q) (hd : q ∣ LL_) (hp : p ≤ B * q) : tmk_ (S + B) (tAd t p q) := by
  obtain ⟨x1, x2, x3⟩ := tmk_x h hq hd hp
  rw [← tAd_lcm h.1 hq]
  generalize t.1 * (q / Nat.gcd t.2 q) + p * (t.2 / Nat.gcd t.2 q) = x at *
  generalize t.2 / Nat.gcd t.2 q * q = y at *
  refine ⟨red_pos x3, Nat.dvd_trans red_dvd x2, ?_⟩
  have hm := red_mul (x := x) (y := y)
  have h1 : (red x y).1 * y ≤ ((S + B) * (red x y).2) * y := by
    rw [hm, Nat.mul_right_comm]
    exact Nat.mul_le_mul_right _ x1
  exact Nat.le_of_mul_le_mul_right h1 x3
theorem tmk_le {S t2 : Nat} {t : Nat × Nat} (h : tmk_ S t) (hS : S ≤ t2) : tmk_ t2 t := ⟨h.1, h.2.1, Nat.le_trans h.2.2 (Nat.mul_le_mul_right _ hS)⟩
theorem LL_le {d : Nat} (h : d ∣ LL_) : d ≤ 80015040000 := Nat.le_of_dvd (by decide) h
/-- numbers stay small -/
theorem tmk_b {S : Nat} {t : Nat × Nat} (h : tmk_ S t) (hS : S ≤ 100000000) : t.1 ≤ 8001504000000000000 ∧ t.2 ≤ 80015040000 := by
  have h1 := LL_le h.2.1
  refine ⟨Nat.le_trans h.2.2 (Nat.le_trans (Nat.mul_le_mul hS h1) (by decide)), h1⟩
theorem lcm_sw {d q : Nat} : d / Nat.gcd d q * q = d * (q / Nat.gcd d q) := by
  rw [← Nat.mul_div_assoc _ (Nat.gcd_dvd_right d q), Nat.mul_comm (d / Nat.gcd d q) q, ← Nat.mul_div_assoc _ (Nat.gcd_dvd_left d q), Nat.mul_comm q d]
theorem red_le {B p q : Nat} (hq : 0 < q) (h : p ≤ B * q) : (red p q).1 ≤ B * (red p q).2 := by
  have hm := red_mul (x := p) (y := q)
  have h1 : (red p q).1 * q ≤ (B * (red p q).2) * q := by
    rw [hm, Nat.mul_right_comm]
    exact Nat.mul_le_mul_right _ h
  exact Nat.le_of_mul_le_mul_right h1 hq
theorem red_01 : red 0 1 = (0, 1) := rfl
theorem red_n1 {n : Nat} : red n 1 = (n, 1) := by
  unfold red
  rw [Nat.gcd_one_right, Nat.div_one, Nat.div_one]
/-- the times: V ticks, ua over da -/
def tT (t0 : Nat × Nat) (V ua da : Nat → Nat) : Nat → Nat × Nat
  | 0 => t0
  | n + 1 => tAd (tT t0 V ua da n) (V n * da n) (ua n)
/-- a symbol's length as it can be -/
def sz_ (V ua da : Nat → Nat) (n : Nat) : Prop := ∀ i, i < n → V i ≤ 972 ∧ (0 < ua i ∧ ua i ∣ LL_) ∧ da i ≤ 1000
theorem sz_B {V ua da : Nat → Nat} {n i : Nat} (h : sz_ V ua da n) (hi : i < n) : V i * da i ≤ 972000 * ua i := by
  obtain ⟨h1, ⟨h2, -⟩, h3⟩ := h i hi
  exact Nat.le_trans (Nat.mul_le_mul h1 h3) (by omega)
theorem tT_k {S : Nat} {t0 : Nat × Nat} {V ua da : Nat → Nat} {n : Nat} (h0 : tmk_ S t0) (h : sz_ V ua da n) : ∀ i, i ≤ n → tmk_ (S + 972000 * i) (tT t0 V ua da i)
  | 0, _ => h0
  | i + 1, hi => by
    have h1 := tmk_A (tT_k h0 h i (by omega)) (h i (by omega)).2.1.1 (h i (by omega)).2.1.2 (sz_B h (show i < n by omega))
    rw [show S + 972000 * (i + 1) = S + 972000 * i + 972000 from by omega]
    exact h1
theorem tmk_0 : tmk_ 0 (0, 1) := ⟨by decide, ⟨_, (Nat.one_mul _).symm⟩, Nat.le_refl _⟩
end FRAC
