/-! the reference's times -/
section RTM
variable {T : Nat → Nat × Nat} {u d : Nat}
abbrev atP (T : Nat → Nat × Nat) (u d i : Nat) : Prop := (T i).1 * d ≤ u * (T i).2 ∧ u * (T (i + 1)).2 < (T (i + 1)).1 * d
theorem at_none : ∀ m a, (∀ i, a ≤ i → i < a + m → ¬ atP T u d i) → atS T u d m a = -1
  | 0, _, _ => rfl
  | m + 1, a, h => by
    show (if atP T u d a then _ else _) = _
    rw [if_neg (h a (Nat.le_refl _) (by omega))]
    exact at_none m (a + 1) (fun i h1 h2 => h i (by omega) (by omega))
theorem at_some {k : Nat} (hk : atP T u d k) : ∀ m a, a ≤ k → k < a + m → (∀ i, a ≤ i → i < k → ¬ atP T u d i) → atS T u d m a = nI k
  | 0, _, h1, h2, _ => by omega
  | m + 1, a, h1, h2, h => by
    show (if atP T u d a then _ else _) = _
    by_cases e : a = k
    · rw [e, if_pos hk]
    · rw [if_neg (h a (Nat.le_refl _) (by omega))]
      exact at_some hk m (a + 1) (by omega) (by omega) (fun i h3 h4 => h i (by omega) h4)
/-- the last that lasts then -/
def atL (T : Nat → Nat × Nat) (u d : Nat) (so : Nat → Nat) : Nat → Int32
  | 0 => -1
  | i + 1 => if atP T u d i ∧ so i ≠ 3 then nI i else atL T u d so i
theorem atL_eq {so : Nat → Nat} {n : Nat} (hm : ∀ i, i < n → leT (T i) (T (i + 1))) (hp : ∀ i, i ≤ n → 0 < (T i).2) (hd : ∀ i, i < n → so i = 3 → ¬ atP T u d i) : atL T u d so n = atS T u d n 0 := by
  have uq : ∀ i j, i < j → j < n → atP T u d i → ¬ atP T u d j := by
    intro i j hij hj h1 h2
    have hl := leT_le hm hp (j - (i + 1)) (i + 1) (by omega)
    rw [show i + 1 + (j - (i + 1)) = j from by omega] at hl
    have p1 := hp j (by omega)
    have p2 := hp (i + 1) (by omega)
    obtain ⟨-, h1⟩ := h1
    obtain ⟨h2, -⟩ := h2
    generalize T (i + 1) = a at *
    generalize T j = b at *
    obtain ⟨a1, a2⟩ := a
    obtain ⟨b1, b2⟩ := b
    have h1 : u * a2 < a1 * d := h1
    have h2 : b1 * d ≤ u * b2 := h2
    have hl : a1 * b2 ≤ b1 * a2 := hl
    have p1 : 0 < b2 := p1
    have e1 : u * a2 * b2 < a1 * d * b2 := Nat.mul_lt_mul_of_pos_right h1 p1
    have e2 : a1 * b2 * d ≤ b1 * a2 * d := Nat.mul_le_mul_right _ hl
    have e3 : b1 * d * a2 ≤ u * b2 * a2 := Nat.mul_le_mul_right _ h2
    have q1 : a1 * d * b2 = a1 * b2 * d := Nat.mul_right_comm _ _ _
    have q2 : b1 * a2 * d = b1 * d * a2 := Nat.mul_right_comm _ _ _
    have q3 : u * b2 * a2 = u * a2 * b2 := Nat.mul_right_comm _ _ _
    omega
  have ln : ∀ m, (∀ i, i < m → ¬ atP T u d i) → atL T u d so m = -1 := by
    intro m
    induction m with
    | zero => intro _; rfl
    | succ m ih =>
      intro h
      show (if atP T u d m ∧ so m ≠ 3 then _ else _) = _
      rw [if_neg (fun z => h m (by omega) z.1)]
      exact ih (fun i hi => h i (by omega))
  by_cases ex : ∃ k, k < n ∧ atP T u d k
  · obtain ⟨k, hk, hP⟩ := ex
    rw [at_some hP n 0 (Nat.zero_le _) (by omega) (fun i _ h4 h5 => uq i k h4 hk h5 hP)]
    have key : ∀ m, k < m → m ≤ n → atL T u d so m = nI k := by
      intro m
      induction m with
      | zero => intro h; omega
      | succ m ih =>
        intro h1 h2
        show (if atP T u d m ∧ so m ≠ 3 then nI m else _) = _
        by_cases e : m = k
        · rw [e, if_pos ⟨hP, fun z => hd k hk z hP⟩]
        · rw [if_neg (fun z => uq k m (by omega) (by omega) hP z.1)]
          exact ih (by omega) (by omega)
    exact key n hk (Nat.le_refl _)
  · have hno : ∀ i, i < n → ¬ atP T u d i := fun i hi z => ex ⟨i, hi, z⟩
    rw [ln n hno, at_none n 0 (fun i _ h2 => hno i (by omega))]
theorem atP_dot {t : Nat × Nat} {q i : Nat} (hT : T i = t) (hT1 : T (i + 1) = tAd t 0 q) (hq : 0 < q) (ht : 0 < t.2) : ¬ atP T u d i := by
  rintro ⟨h1, h2⟩
  rw [hT1, tAd_0 hq] at h2
  rw [hT] at h1
  have hm := red_mul (x := t.1) (y := t.2)
  have hp := red_pos (x := t.1) ht
  generalize red t.1 t.2 = r at *
  obtain ⟨t1, t2⟩ := t
  obtain ⟨r1, r2⟩ := r
  have h1 : t1 * d ≤ u * t2 := h1
  have h2 : u * r2 < r1 * d := h2
  have hm : r1 * t2 = t1 * r2 := hm
  have ht : 0 < t2 := ht
  have e1 : u * r2 * t2 < r1 * d * t2 := Nat.mul_lt_mul_of_pos_right h2 ht
  have e2 : t1 * d * r2 ≤ u * t2 * r2 := Nat.mul_le_mul_right _ h1
  have q1 : r1 * d * t2 = r1 * t2 * d := Nat.mul_right_comm _ _ _
  have q2 : t1 * d * r2 = t1 * r2 * d := Nat.mul_right_comm _ _ _
  have q3 : u * t2 * r2 = u * r2 * t2 := Nat.mul_right_comm _ _ _
  rw [hm] at q1
  omega
theorem cm3_e {a b : Nat} (h : a = b) : cm3 a b = 0 := by rw [h]; exact cm3_eq
/-- for a voice -/
theorem aT_at {s : aS} {n k u d : Nat} {y : gR} (hW : WF s) (hn : n < 6) (hy : (aR s n)[k]? = some y) : atL (aT s n y) u d (fun i => aSo s (24 * n + i)) (aSz s n) = atS (aT s n y) u d (aSz s n) 0 := by
  have hz := a_sz hW hn hy
  have hv := hW.2.1 n hn
  refine atL_eq (fun i hi => leT_ad (a_tb hW hn hy (by omega)).2.2 (hz i hi).2.1.1) (fun i hi => (a_tb hW hn hy hi).2.2) (fun i hi h3 => ?_)
  have h1 := rD_val hv.1.1 hy
  have h2 : y.2.length = aSz s n := (rD_ok (vok_rk hv) hy).2
  have h0 := (h1 i (by omega)).1
  rw [Nat.zero_add] at h0
  have hdt : ro_dot (aW s n) i = true := by
    rw [ro_dot_i]
    show (decide (i < aSz s n) && decide ((if i < aSz s n then aSo s (24 * n + i) else 0) = 3)) = true
    rw [if_pos hi, decide_eq_true hi, decide_eq_true h3]
    rfl
  have h4 : aV y i = 0 := h0 hdt
  refine atP_dot (t := aT s n y i) (q := aUa s (24 * n + i)) rfl ?_ (hz i hi).2.1.1 (a_tb hW hn hy (by omega)).2.2
  show tAd (aT s n y i) (aV y i * aDa s (24 * n + i)) (aUa s (24 * n + i)) = _
  rw [h4, Nat.zero_mul]
end RTM
theorem vp_updL_s {f : Nat → Int64} {k : Nat} {x : Int64} : vp_updL f k x k = x := if_pos rfl
theorem vp_updL_n {f : Nat → Int64} {k j : Nat} {x : Int64} (h : j ≠ k) : vp_updL f k x j = f j := if_neg h
