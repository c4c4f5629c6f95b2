/-! how far the items reach, as the reference finds it -/
section STK
/-- the places reached, after n turns -/
def sRw (c : Nat → Nat → Bool) : Nat → Nat → Bool
  | 0 => fun i => decide (i = 0)
  | n + 1 => fun i => if i = n + 1 then (List.range (n + 1)).any (fun f => sRw c n f && c f (n + 1)) else sRw c n i
def sMo (c : Nat → Nat → Bool) : Nat → Nat
  | 0 => 0
  | n + 1 => if sRw c (n + 1) (n + 1) = true then n + 1 else sMo c n
variable {c : Nat → Nat → Bool} {w : ro_w} {sg g : Nat} {T I : Nat → Nat}
theorem sRw_st : ∀ (n i : Nat), i ≤ n → sRw c n i = sRw c i i
  | 0, i, h => by rw [show i = 0 by omega]
  | n + 1, i, h => by
    by_cases e : i = n + 1
    · rw [e]
    · show (if i = n + 1 then _ else sRw c n i) = _
      rw [if_neg e, sRw_st n i (by omega)]
theorem sRw_n {n : Nat} (hn : 1 ≤ n) : sRw c n n = true ↔ ∃ f, f < n ∧ sRw c f f = true ∧ c f n = true := by
  obtain ⟨m, rfl⟩ : ∃ m, n = m + 1 := ⟨n - 1, by omega⟩
  show (if m + 1 = m + 1 then (List.range (m + 1)).any (fun f => sRw c m f && c f (m + 1)) else sRw c m (m + 1)) = true ↔ _
  rw [if_pos rfl, List.any_eq_true]
  constructor
  · rintro ⟨f, h1, h2⟩
    rw [List.mem_range] at h1
    rw [Bool.and_eq_true, sRw_st m f (by omega)] at h2
    exact ⟨f, h1, h2⟩
  · rintro ⟨f, h1, h2, h3⟩
    refine ⟨f, List.mem_range.mpr h1, ?_⟩
    rw [Bool.and_eq_true, sRw_st m f (by omega)]
    exact ⟨h2, h3⟩
theorem sMo_le : ∀ n, sMo c n ≤ n
  | 0 => Nat.le_refl _
  | n + 1 => by
    show (if sRw c (n + 1) (n + 1) = true then n + 1 else sMo c n) ≤ n + 1
    have := sMo_le n
    split <;> omega
theorem sMo_is : ∀ n, sRw c (sMo c n) (sMo c n) = true
  | 0 => rfl
  | n + 1 => by
    by_cases h : sRw c (n + 1) (n + 1) = true
    · rw [show sMo c (n + 1) = n + 1 from if_pos h]; exact h
    · rw [show sMo c (n + 1) = sMo c n from if_neg h]; exact sMo_is n
theorem sMo_gt : ∀ n q, q ≤ n → sRw c q q = true → q ≤ sMo c n
  | 0, q, h, _ => h
  | n + 1, q, h, hq => by
    by_cases h1 : sRw c (n + 1) (n + 1) = true
    · rw [show sMo c (n + 1) = n + 1 from if_pos h1]; exact h
    · rw [show sMo c (n + 1) = sMo c n from if_neg h1]
      by_cases e : q = n + 1
      · rw [e] at hq; exact absurd hq h1
      · exact sMo_gt n q (by omega) hq
theorem rh_bit {IE : Nat → Nat} (hi : ∀ p, p < w.1 → mb (IE p) (IT w sg g p)) (hc : ∀ f n, f < n → n ≤ w.1 → (c f n = true ↔ IT w sg g f n)) : ∀ n, n ≤ w.1 → ∀ q, (rh_ IE n).testBit q = true ↔ (q = 0 ∨ ∃ f, f < n ∧ sRw c f f = true ∧ IT w sg g f q)
  | 0, _, q => by
    show Nat.testBit 1 q = true ↔ _
    rw [Nat.testBit_one_eq_true_iff_self_eq_zero]
    constructor
    · exact fun h => Or.inl h
    · rintro (h | ⟨f, h, _⟩)
      · exact h
      · omega
  | n + 1, hn, q => by
    have ih := rh_bit hi hc n (by omega)
    have hb : (rh_ IE n).testBit n = true ↔ sRw c n n = true := by
      rw [ih n]
      by_cases e : n = 0
      · subst e; exact ⟨fun _ => rfl, fun _ => Or.inl rfl⟩
      · rw [sRw_n (by omega)]
        constructor
        · rintro (h | ⟨f, h1, h2, h3⟩)
          · exact absurd h e
          · exact ⟨f, h1, h2, (hc f n h1 (by omega)).mpr h3⟩
        · rintro ⟨f, h1, h2, h3⟩
          exact Or.inr ⟨f, h1, h2, (hc f n h1 (by omega)).mp h3⟩
    show (rh_ IE n ||| (if (rh_ IE n).testBit n = true then IE n else 0)).testBit q = true ↔ _
    rw [Nat.testBit_or, Bool.or_eq_true, ih q]
    constructor
    · rintro ((h | ⟨f, h1, h2, h3⟩) | h)
      · exact Or.inl h
      · exact Or.inr ⟨f, by omega, h2, h3⟩
      · by_cases hq : (rh_ IE n).testBit n = true
        · rw [if_pos hq] at h
          exact Or.inr ⟨n, by omega, hb.mp hq, (hi n (by omega) q).mp h⟩
        · rw [if_neg hq, Nat.zero_testBit] at h; cases h
    · rintro (h | ⟨f, h1, h2, h3⟩)
      · exact Or.inl (Or.inl h)
      · by_cases e : f = n
        · rw [e] at h2 h3
          rw [if_pos (hb.mpr h2)]
          exact Or.inr ((hi n (by omega) q).mpr h3)
        · exact Or.inl (Or.inr ⟨f, by omega, h2, h3⟩)
theorem fu_mo {u : Nat} (hc : ∀ f n, f < n → n ≤ w.1 → (c f n = true ↔ IT w sg (gd_ sg) f n)) (hu : fu_ w sg u) : u = sMo c w.1 := by
  obtain ⟨IE, h1, -, rfl⟩ := hu
  have hb : ∀ q, (rh_ IE w.1).testBit q = true ↔ (q ≤ w.1 ∧ sRw c q q = true) := fun q => by
    rw [rh_bit h1 hc w.1 (Nat.le_refl _) q]
    constructor
    · rintro (h | ⟨f, a1, a2, a3⟩)
      · rw [h]; exact ⟨Nat.zero_le _, rfl⟩
      · have := it_lt a3
        exact ⟨this.2, (sRw_n (by omega)).mpr ⟨f, this.1, a2, (hc f q this.1 this.2).mpr a3⟩⟩
    · rintro ⟨a1, a2⟩
      by_cases e : q = 0
      · exact Or.inl e
      · obtain ⟨f, b1, b2, b3⟩ := (sRw_n (by omega)).mp a2
        exact Or.inr ⟨f, by omega, b2, (hc f q b1 a1).mp b3⟩
  refine lg_at ?_ ?_
  · exact Nat.ge_two_pow_of_testBit ((hb _).mpr ⟨sMo_le _, sMo_is _⟩)
  · refine Nat.lt_pow_two_of_testBit _ (fun j hj => ?_)
    rw [← Bool.not_eq_true, hb j]
    rintro ⟨a1, a2⟩
    have := sMo_gt w.1 j a1 a2
    omega
theorem sRw_lv (hc : ∀ f n, f < n → n ≤ w.1 → (c f n = true ↔ IT w sg g f n)) : sRw c w.1 w.1 = true ↔ lvE w sg g [] 0 := by
  constructor
  · intro h
    have key : ∀ n q, q ≤ n → q ≤ w.1 → sRw c q q = true → lvE w sg g [] q → lvE w sg g [] 0 := by
      intro n
      induction n with
      | zero => intro q h1 _ _ h3; rw [show q = 0 by omega] at h3; exact h3
      | succ n ih =>
        intro q h1 h2 h3 h4
        by_cases e : q = 0
        · rw [e] at h4; exact h4
        · obtain ⟨f, b1, b2, b3⟩ := (sRw_n (by omega)).mp h3
          exact ih f (by omega) (by omega) b2 ((lv_row (by omega)).mpr ⟨q, (hc f q b1 h2).mp b3, h4⟩)
    exact key w.1 w.1 (Nat.le_refl _) (Nat.le_refl _) h (lv_end (Nat.le_refl _))
  · intro h
    have key : ∀ n q, w.1 - q ≤ n → q ≤ w.1 → sRw c q q = true → lvE w sg g [] q → sRw c w.1 w.1 = true := by
      intro n
      induction n with
      | zero => intro q h1 h2 h3 _; rw [show q = w.1 by omega] at h3; exact h3
      | succ n ih =>
        intro q h1 h2 h3 h4
        by_cases e : q = w.1
        · rw [e] at h3; exact h3
        · obtain ⟨m, b1, b2⟩ := (lv_row (by omega)).mp h4
          have := it_lt b1
          exact ih m (by omega) this.2 ((sRw_n (by omega)).mpr ⟨q, this.1, h3, (hc q m this.1 this.2).mpr b1⟩) b2
    exact key w.1 0 (by omega) (Nat.zero_le _) rfl h
theorem ct_IT (hc : tc_ w sg g T I) (hg : ∀ k, k < g → sp_perf sg k = false) {a b : Nat} (hb : b ≤ w.1) : decide (0 < ct_it w g T a b) = true ↔ IT w sg g a b := by
  have h1 := gI_cq hc (a := a) hb
  have h2 := (it_p hc hg (a := a) hb).length_eq
  unfold cq at h1
  rw [decide_eq_true_iff]
  have h3 : 0 < ct_it w g T a b ↔ 0 < (rs (its w sg g a) b).length := by rw [h2]; omega
  rw [h3, List.length_pos_iff]
  unfold IT Rm rs
  rw [Ne, List.map_eq_nil_iff, List.filter_eq_nil_iff]
  constructor
  · intro h
    have h := Classical.not_forall.mp h
    obtain ⟨x, hx⟩ := h
    have hx := Classical.not_imp.mp hx
    refine ⟨x.1, ?_⟩
    have e : x.2 = b := by simpa using hx.2
    rw [← e]
    exact hx.1
  · rintro ⟨x, hx⟩ h
    exact h (x, b) hx (by simp)
theorem stk_u {u : Nat} (hc : tc_ w sg (gd_ sg) T I) (hk : rk_ w sg (gd_ sg)) (hu : fu_ w sg u) : u = sMo (fun a b => decide (0 < ct_it w (gd_ sg) T a b)) w.1 ∧ (u = w.1 ↔ (rD w sg).length ≠ 0) := by
  have hcc : ∀ f n, f < n → n ≤ w.1 → ((fun a b => decide (0 < ct_it w (gd_ sg) T a b)) f n = true ↔ IT w sg (gd_ sg) f n) := fun f n _ h2 => ct_IT hc hk.2.2.1 h2
  have h1 := fu_mo hcc hu
  have h2 := sRw_lv hcc
  refine ⟨h1, ?_⟩
  have h3 : (rD w sg).length = (pR w sg (gd_ sg) 0).length := by
    show (rS w sg (gd_ sg)).length = _
    rw [(rS_perm (show gd_ sg ≤ 6 by have := hk.2.1; omega) hk.1).length_eq, (rL_gD hc hk).length_eq, (pR_p hc hk.2.2.1 w.1 0 (by omega)).length_eq]
  have h4 : lvE w sg (gd_ sg) [] 0 ↔ (rD w sg).length ≠ 0 := by
    unfold lvE
    rw [gE_nil, h3]
    exact not_congr List.length_eq_zero_iff.symm
  rw [← h4, ← h2, h1]
  constructor
  · intro e
    have := sMo_is (c := fun a b => decide (0 < ct_it w (gd_ sg) T a b)) w.1
    rw [e] at this
    exact this
  · intro e
    have a1 := sMo_gt w.1 w.1 (Nat.le_refl _) e
    have a2 := sMo_le (c := fun a b => decide (0 < ct_it w (gd_ sg) T a b)) w.1
    omega
end STK
