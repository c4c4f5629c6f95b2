/-! the times of a voice -/
def aV (y : gR) : Nat → Nat := fun i => y.2.getD i 0
def aT (s : aS) (n : Nat) (y : gR) : Nat → Nat × Nat := tT (0, 1) (aV y) (fun i => aUa s (24 * n + i)) (fun i => aDa s (24 * n + i))
section TMS
variable {s : aS} {n k : Nat} {y : gR}
theorem a_sz (hW : WF s) (hn : n < 6) (hy : (aR s n)[k]? = some y) : sz_ (aV y) (fun i => aUa s (24 * n + i)) (fun i => aDa s (24 * n + i)) (aSz s n) := fun i hi => by
  have hv := hW.2.1 n hn
  have h1 := rD_val hv.1.1 hy
  have h2 : y.2.length = aSz s n := (rD_ok (vok_rk hv) hy).2
  have h3 := (h1 i (by omega)).2.1
  obtain ⟨-, -, -, -, ⟨a1, -, a3⟩, a4⟩ := hv.2.2.2.1 i hi
  exact ⟨h3, ⟨a1, a3⟩, a4⟩
theorem a_u1 (hW : WF s) (hn : n < 6) : ∀ i, i < aSz s n → aUa s (24 * n + i) ≤ 1000 := fun i hi => ((hW.2.1 n hn).2.2.2.1 i hi).2.2.2.2.1.2.1
theorem a_tk (hW : WF s) (hn : n < 6) (hy : (aR s n)[k]? = some y) {i : Nat} (hi : i ≤ aSz s n) : tmk_ (0 + 972000 * i) (aT s n y i) := tT_k tmk_0 (a_sz hW hn hy) i hi
theorem a_tb (hW : WF s) (hn : n < 6) (hy : (aR s n)[k]? = some y) {i : Nat} (hi : i ≤ aSz s n) : (aT s n y i).1 < 2 ^ 63 ∧ (aT s n y i).2 < 2 ^ 63 ∧ 0 < (aT s n y i).2 := by
  have h1 := a_tk hW hn hy hi
  have h2 : aSz s n ≤ 24 := (hW.2.1 n hn).1.2
  have h3 := tmk_b h1 (by omega)
  exact ⟨by omega, by omega, h1.1⟩
/-- whether what is picked can be told -/
def pfA (L : Nat) : Int32 := if 1000 < L then -4 else if L = 0 then -1 else 0
theorem pf_rf {L p : Nat} (h : p = 0 ∨ p < L) : rfA L (nI p) = pfA L := by
  unfold rfA pfA
  by_cases c : 1000 < L
  · rw [if_pos c, if_pos c]
  · rw [if_neg c, if_neg c]
    by_cases c0 : L = 0
    · rw [if_pos c0, if_pos]
      right
      have : p = 0 := by omega
      rw [c0, this]
      decide
    · rw [if_neg c0, if_neg]
      rintro (q | q)
      · exact nI_nn (by omega) q
      · exact nI_nl (show p < L by omega) (by omega) q
theorem pfA_0 {L : Nat} (h : pfA L = 0) : L ≤ 1000 ∧ 0 < L := by
  unfold pfA at h
  by_cases c : 1000 < L
  · rw [if_pos c] at h; exact absurd h (by decide)
  · rw [if_neg c] at h
    by_cases c0 : L = 0
    · rw [if_pos c0] at h; exact absurd h (by decide)
    · omega
theorem pfA_1 {L : Nat} (h1 : L ≤ 1000) (h2 : 0 < L) : pfA L = 0 := by
  unfold pfA
  rw [if_neg (by omega), if_neg (by omega)]
/-- the reading picked -/
theorem pk_ex (hW : WF s) (hn : n < 6) (h : 0 < (aR s n).length) : ∃ y, (aR s n)[aPk s n]? = some y := by
  have h1 := (hW.2.1 n hn).2.2.2.2.2.2
  have : aPk s n < (aR s n).length := by omega
  exact ⟨_, List.getElem?_eq_getElem this⟩
/-- where a time is found: the first symbol that lasts then -/
def atS (T : Nat → Nat × Nat) (u d : Nat) : Nat → Nat → Int32
  | 0, _ => -1
  | m + 1, i => if (T i).1 * d ≤ u * (T i).2 ∧ u * (T (i + 1)).2 < (T (i + 1)).1 * d then nI i else atS T u d m (i + 1)
theorem cm3_le {a b : Nat} : Int32.ofInt (cm3 a b) ≤ 0 ↔ a ≤ b := by
  unfold cm3
  rcases Nat.lt_trichotomy a b with h | h | h
  · rw [if_pos h]; exact ⟨fun _ => by omega, fun _ => by decide⟩
  · rw [if_neg (by omega), if_pos h]; exact ⟨fun _ => by omega, fun _ => by decide⟩
  · rw [if_neg (by omega), if_neg (by omega)]; exact ⟨fun z => absurd z (by decide), fun z => by omega⟩
theorem cm3_lt0 {a b : Nat} : Int32.ofInt (cm3 a b) < 0 ↔ a < b := by
  unfold cm3
  rcases Nat.lt_trichotomy a b with h | h | h
  · rw [if_pos h]; exact ⟨fun _ => by omega, fun _ => by decide⟩
  · rw [if_neg (by omega), if_pos h]; exact ⟨fun z => absurd z (by decide), fun _ => by omega⟩
  · rw [if_neg (by omega), if_neg (by omega)]; exact ⟨fun z => absurd z (by decide), fun z => by omega⟩
theorem cm3_gt0 {a b : Nat} : 0 < Int32.ofInt (cm3 a b) ↔ b < a := by
  unfold cm3
  rcases Nat.lt_trichotomy a b with h | h | h
  · rw [if_pos h]; exact ⟨fun z => absurd z (by decide), fun _ => by omega⟩
  · rw [if_neg (by omega), if_pos h]; exact ⟨fun z => absurd z (by decide), fun _ => by omega⟩
  · rw [if_neg (by omega), if_neg (by omega)]; exact ⟨fun _ => h, fun _ => by decide⟩
/-- a time is not before another -/
def leT (a b : Nat × Nat) : Prop := a.1 * b.2 ≤ b.1 * a.2
theorem leT_rf {a : Nat × Nat} : leT a a := Nat.le_refl _
theorem leT_tr {a b c : Nat × Nat} (hb : 0 < b.2) (h1 : leT a b) (h2 : leT b c) : leT a c := by
  obtain ⟨a1, a2⟩ := a
  obtain ⟨b1, b2⟩ := b
  obtain ⟨c1, c2⟩ := c
  have h1 : a1 * b2 ≤ b1 * a2 := h1
  have h2 : b1 * c2 ≤ c1 * b2 := h2
  have hb : 0 < b2 := hb
  show a1 * c2 ≤ c1 * a2
  have e1 : a1 * c2 * b2 = a1 * b2 * c2 := Nat.mul_right_comm _ _ _
  have e2 : b1 * a2 * c2 = b1 * c2 * a2 := Nat.mul_right_comm _ _ _
  have e3 : c1 * b2 * a2 = c1 * a2 * b2 := Nat.mul_right_comm _ _ _
  have h3 := Nat.mul_le_mul_right c2 h1
  have h4 := Nat.mul_le_mul_right a2 h2
  exact Nat.le_of_mul_le_mul_right (by omega) hb
theorem leT_ad {t : Nat × Nat} {p q : Nat} (ht : 0 < t.2) (hq : 0 < q) : leT t (tAd t p q) := by
  have hm := red_mul (x := t.1 * q + p * t.2) (y := t.2 * q)
  have hy : 0 < t.2 * q := Nat.mul_pos ht hq
  unfold leT tAd
  generalize red (t.1 * q + p * t.2) (t.2 * q) = r at *
  obtain ⟨t1, t2⟩ := t
  obtain ⟨r1, r2⟩ := r
  have hm : r1 * (t2 * q) = (t1 * q + p * t2) * r2 := hm
  have ht : 0 < t2 := ht
  show t1 * r2 ≤ r1 * t2
  have e1 : t1 * r2 * q = t1 * q * r2 := Nat.mul_right_comm _ _ _
  have e2 : r1 * t2 * q = r1 * (t2 * q) := Nat.mul_assoc _ _ _
  have e3 : (t1 * q + p * t2) * r2 = t1 * q * r2 + p * t2 * r2 := Nat.add_mul _ _ _
  exact Nat.le_of_mul_le_mul_right (by omega) hq
theorem tAd_0 {t : Nat × Nat} {q : Nat} (hq : 0 < q) : tAd t 0 q = red t.1 t.2 := by
  unfold tAd
  rw [Nat.zero_mul, Nat.add_zero, Nat.mul_comm t.1, Nat.mul_comm t.2, red_k hq]
theorem leT_le {T : Nat → Nat × Nat} {N : Nat} (h : ∀ i, i < N → leT (T i) (T (i + 1))) (hp : ∀ i, i ≤ N → 0 < (T i).2) : ∀ d i, i + d ≤ N → leT (T i) (T (i + d))
  | 0, i, _ => leT_rf
  | d + 1, i, hd => leT_tr (hp (i + d) (by omega)) (leT_le h hp d i (by omega)) (h (i + d) (by omega))
end TMS
