/-! rows laid by number -/
section LAY
def dg : Nat → Nat → List Nat
  | 0, _ => []
  | n + 1, k => (k / 14 ^ n % 14) :: dg n k
theorem dg_len : ∀ (n k : Nat), (dg n k).length = n
  | 0, _ => rfl
  | n + 1, k => by show (dg n k).length + 1 = n + 1; rw [dg_len n k]
theorem dg_lt : ∀ (n k : Nat), ∀ c ∈ dg n k, c < 14
  | 0, _, c, h => by cases h
  | n + 1, k, c, h => by
    rcases List.mem_cons.mp (show c ∈ (k / 14 ^ n % 14) :: dg n k from h) with e | e
    · rw [e]; exact Nat.mod_lt _ (by decide)
    · exact dg_lt n k c e
theorem dg_mod : ∀ (n m k : Nat), n ≤ m → dg n (k % 14 ^ m) = dg n k
  | 0, _, _, _ => rfl
  | n + 1, m, k, h => by
    show (k % 14 ^ m / 14 ^ n % 14) :: dg n (k % 14 ^ m) = (k / 14 ^ n % 14) :: dg n k
    rw [dg_mod n m k (by omega)]
    congr 1
    obtain ⟨d, rfl⟩ : ∃ d, m = n + (d + 1) := ⟨m - n - 1, by omega⟩
    rw [Nat.pow_add, Nat.mod_mul_right_div_self, Nat.pow_succ]
    exact Nat.mod_mod_of_dvd _ (Nat.dvd_mul_left _ _)
theorem ENr_l : ∀ n, (ENr (List.replicate n (List.range 14))).length = 14 ^ n
  | 0 => rfl
  | n + 1 => by rw [List.replicate_succ, ENr_len, ENr_l n, List.length_range, Nat.pow_succ, Nat.mul_comm]
theorem ENr_dg : ∀ (n k : Nat), k < 14 ^ n → (ENr (List.replicate n (List.range 14)))[k]? = some (dg n k)
  | 0, k, h => by
    have h0 : k = 0 := by rw [Nat.pow_zero] at h; omega
    rw [h0]
    rfl
  | n + 1, k, h => by
    have hp : 0 < 14 ^ n := Nat.pow_pos (by decide)
    rw [List.replicate_succ]
    show ((List.range 14).flatMap (fun c => (ENr (List.replicate n (List.range 14))).map (fun l => c :: l)))[k]? = _
    rw [flm_at (by rw [ENr_l]; exact hp), ENr_l]
    have hq : k / 14 ^ n < 14 := Nat.div_lt_of_lt_mul (by rw [← Nat.pow_succ]; exact h)
    rw [List.getElem?_range hq, ENr_dg n (k % 14 ^ n) (Nat.mod_lt _ hp), dg_mod n n k (Nat.le_refl _)]
    show some ((k / 14 ^ n) :: dg n k) = some ((k / 14 ^ n % 14) :: dg n k)
    rw [Nat.mod_eq_of_lt hq]
/-- the divisor where r turns are left -/
def byR (r : Nat) : Nat := if r = 0 then 0 else 14 ^ (r - 1)
theorem byR_s (r : Nat) : byR (r + 1) = 14 ^ r := by
  unfold byR
  rw [if_neg (by omega)]
  rfl
theorem byR_d (r : Nat) : 14 ^ r / 14 = byR r := by
  unfold byR
  by_cases h : r = 0
  · rw [h]; rfl
  · rw [if_neg h]
    obtain ⟨m, rfl⟩ : ∃ m, r = m + 1 := ⟨r - 1, by omega⟩
    rw [Nat.pow_succ, Nat.mul_div_cancel _ (by decide)]
    rfl
theorem wl_app {a b : List Nat} : wl (a ++ b) = wl a ++ wl b := by unfold wl; rw [List.flatMap_append]
theorem odd_app {a b : List Nat} : oddN (a ++ b) = oddN a + oddN b := by unfold oddN; rw [List.map_append, List.sum_append]
theorem odd_le : ∀ (a : List Nat), oddN a ≤ a.length
  | [] => Nat.le_refl _
  | c :: a => by
    have := odd_le a
    have e : oddN (c :: a) = c % 2 + oddN a := by unfold oddN; rw [List.map_cons, List.sum_cons]
    rw [e, List.length_cons]
    omega
/-- the row as it is laid: at dots kind and colour are stale -/
def lyr (A : Nat → Nat → Int32) (l : List (Nat × Nat)) : Prop := ∀ i, i < l.length → A 16 i = nI (l.getD i (0, 0)).1 ∧ ((l.getD i (0, 0)).1 = 1 → A 17 i = nI (l.getD i (0, 0)).2 ∧ A 18 i = nI 0)
theorem gdw_l {l m : List (Nat × Nat)} {i : Nat} (h : i < l.length) : (l ++ m).getD i (0, 0) = l.getD i (0, 0) := by
  rw [List.getD_eq_getElem?_getD, List.getD_eq_getElem?_getD, List.getElem?_append_left h]
theorem gdw_r {l m : List (Nat × Nat)} {i : Nat} (h : l.length ≤ i) : (l ++ m).getD i (0, 0) = m.getD (i - l.length) (0, 0) := by
  rw [List.getD_eq_getElem?_getD, List.getD_eq_getElem?_getD, List.getElem?_append_right h]
theorem lyr_n {A A' : Nat → Nat → Int32} {l : List (Nat × Nat)} {k : Nat} (h : lyr A l) (h6 : A' 16 = upd (A 16) l.length (nI 1)) (h7 : A' 17 = upd (A 17) l.length (nI k)) (h8 : A' 18 = upd (A 18) l.length (nI 0)) : lyr A' (l ++ [(1, k)]) := by
  intro i hi
  rw [List.length_append] at hi
  have hi : i < l.length + 1 := hi
  rw [h6, h7, h8]
  by_cases e : i = l.length
  · rw [e, gdw_r (Nat.le_refl _), Nat.sub_self, pk_us, pk_us, pk_us]
    exact ⟨rfl, fun _ => ⟨rfl, rfl⟩⟩
  · rw [pk_un e, pk_un e, pk_un e, gdw_l (by omega)]
    exact h i (by omega)
theorem lyr_d {A A' : Nat → Nat → Int32} {l : List (Nat × Nat)} (h : lyr A l) (h6 : A' 16 = upd (A 16) l.length (nI 3)) (h7 : A' 17 = A 17) (h8 : A' 18 = A 18) : lyr A' (l ++ [(3, 0)]) := by
  intro i hi
  rw [List.length_append] at hi
  have hi : i < l.length + 1 := hi
  rw [h6, h7, h8]
  by_cases e : i = l.length
  · rw [e, gdw_r (Nat.le_refl _), Nat.sub_self, pk_us]
    exact ⟨rfl, fun z => absurd (show (3 : Nat) = 1 from z) (by decide)⟩
  · rw [pk_un e, gdw_l (by omega)]
    exact h i (by omega)
theorem st1_n {A A' : Nat → Nat → Int32} {p k : Nat} (h : ∀ i, i < 6 → st1 A i) (hk : k < 7) (h7 : A' 17 = upd (A 17) p (nI k)) (h8 : A' 18 = upd (A 18) p (nI 0)) : ∀ i, i < 6 → st1 A' i := fun i hi => by
  unfold st1
  rw [h7, h8]
  by_cases e : i = p
  · rw [e, pk_us, pk_us]
    exact ⟨⟨k, hk, rfl⟩, false, rfl⟩
  · rw [pk_un e, pk_un e]
    exact h i hi
end LAY
