/-! a voice of the class, as memory; Spans' symbols by sorts -/
theorem xu_z {α : Type} {X : Nat → Nat → α} {a i b j : Nat} {v : α} (h : ¬ (b = a ∧ j = i)) : xu X a i v b j = X b j := if_neg h
theorem vr_A {a : Nat} (h : vA a) : rA (a + 3) := by
  unfold vA at h
  unfold rA
  rcases h with rfl | ⟨i, hi, rfl⟩
  · exact Or.inl rfl
  · exact Or.inr ⟨i, hi, by omega⟩
theorem vA_ge {a : Nat} (h : vA a) : 36 ≤ a := by
  unfold vA at h
  rcases h with rfl | ⟨i, hi, rfl⟩ <;> omega
theorem vA_le {a : Nat} (h : vA a) : a ≤ 36 ∨ 61 ≤ a := by
  unfold vA at h
  rcases h with rfl | ⟨i, hi, rfl⟩ <;> omega
theorem pf_b {x : Nat} : x &&& 1 < 2 ^ 31 := Nat.lt_of_le_of_lt Nat.and_le_right (by decide)
theorem pf_e {sg k : Nat} : (sg >>> k) &&& 1 = sg / 2 ^ k % 2 := by rw [Nat.shiftRight_eq_div_pow, Nat.and_one_is_mod]
theorem pf_4 {sg k : Nat} (h : 4 ≤ k) : sp_perf sg k = false := by
  unfold sp_perf
  rw [decide_eq_false (by omega)]
  rfl
theorem pf_0 {sg k : Nat} (h : (sg >>> k) &&& 1 ≠ 1) : sp_perf sg k = false := by
  unfold sp_perf
  rw [pf_e] at h
  rw [decide_eq_false h]
  exact Bool.and_false _
theorem pf_1 {sg k : Nat} (hk : k < 4) (h : (sg >>> k) &&& 1 = 1) : sp_perf sg k = true := by
  unfold sp_perf
  rw [pf_e] at h
  rw [decide_eq_true h, decide_eq_true hk]
  rfl
theorem fl_s : ∀ sg, sg < 16 → ∀ n, n < 6 → fl_ sg n = (if sp_perf sg n = true then 3 else 2) * fl_ sg (n + 1) := by decide +kernel
/-- the ground, as far as it is looked for -/
def gr_at (sg n gv : Nat) : Prop := (∀ k, n ≤ k → k < gv → sp_perf sg k = false) ∧ (gv < 4 → sp_perf sg gv = true ∧ n ≤ gv) ∧ gv ≤ 4
theorem gr_7 {sg : Nat} : gr_at sg 7 4 := ⟨fun k h1 h2 => by omega, fun h => by omega, Nat.le_refl _⟩
theorem gr_p {sg n gv : Nat} (h : gr_at sg (n + 1) gv) (hp : sp_perf sg n = true) : gr_at sg n n := ⟨fun k h1 h2 => by omega, fun _ => ⟨hp, Nat.le_refl _⟩, by have := perf_lt hp; omega⟩
theorem gr_i {sg n gv : Nat} (h : gr_at sg (n + 1) gv) (hp : sp_perf sg n = false) : gr_at sg n gv := ⟨fun k h1 h2 => by
  by_cases e : k = n
  · rw [e]; exact hp
  · exact h.1 k (by omega) h2, fun z => ⟨(h.2.1 z).1, by have := (h.2.1 z).2; omega⟩, h.2.2⟩
theorem gr_gd {sg gv : Nat} (h : gr_at sg 0 gv) : gv = gd_ sg := by
  obtain ⟨h1, h2, h3⟩ := h
  unfold gd_
  have q : ∀ k, k < gv → sp_perf sg k = false := fun k hk => h1 k (Nat.zero_le _) hk
  by_cases e0 : gv = 0
  · subst e0; rw [if_pos (h2 (by omega)).1]
  rw [if_neg (by rw [q 0 (by omega)]; decide)]
  by_cases e1 : gv = 1
  · subst e1; rw [if_pos (h2 (by omega)).1]
  rw [if_neg (by rw [q 1 (by omega)]; decide)]
  by_cases e2 : gv = 2
  · subst e2; rw [if_pos (h2 (by omega)).1]
  rw [if_neg (by rw [q 2 (by omega)]; decide)]
  by_cases e3 : gv = 3
  · subst e3; rw [if_pos (h2 (by omega)).1]
  rw [if_neg (by rw [q 3 (by omega)]; decide)]
  omega
theorem gd_ok {sg : Nat} : gd_ sg ≤ 4 ∧ ∀ k, k < gd_ sg → sp_perf sg k = false := by
  unfold gd_
  split
  · exact ⟨by omega, fun k h => by omega⟩
  split
  · exact ⟨by omega, fun k h => by rw [show k = 0 from by omega]; simpa using ‹¬ sp_perf sg 0 = true›⟩
  split
  · exact ⟨by omega, fun k h => by
      rcases (show k = 0 ∨ k = 1 by omega) with rfl | rfl
      · simpa using ‹¬ sp_perf sg 0 = true›
      · simpa using ‹¬ sp_perf sg 1 = true›⟩
  split
  · exact ⟨by omega, fun k h => by
      rcases (show k = 0 ∨ k = 1 ∨ k = 2 by omega) with rfl | rfl | rfl
      · simpa using ‹¬ sp_perf sg 0 = true›
      · simpa using ‹¬ sp_perf sg 1 = true›
      · simpa using ‹¬ sp_perf sg 2 = true›⟩
  · exact ⟨by omega, fun k h => by
      rcases (show k = 0 ∨ k = 1 ∨ k = 2 ∨ k = 3 by omega) with rfl | rfl | rfl | rfl
      · simpa using ‹¬ sp_perf sg 0 = true›
      · simpa using ‹¬ sp_perf sg 1 = true›
      · simpa using ‹¬ sp_perf sg 2 = true›
      · simpa using ‹¬ sp_perf sg 3 = true›⟩
/-- a voice's sign -/
def vs_ (X : Nat → Nat → Int32) (a sg : Nat) : Prop := X a 3 = nI sg ∧ sg < 16 ∧ X a 4 = nI (gd_ sg) ∧ ∀ k, k < 7 → X (a + 1) k = nI (fl_ sg k)
/-- a voice's row -/
def vw_ (X : Nat → Nat → Int32) (a : Nat) (w : ro_w) : Prop := (X (a + 3) 6 = nI w.1 ∧ w.1 ≤ 24) ∧ ∀ i, i < w.1 → X (a + 4) i = nI (w.2.1 i) ∧ (1 ≤ w.2.1 i ∧ w.2.1 i ≤ 3) ∧ X (a + 5) i = (if w.2.1 i = 3 then -1 else nI (w.2.2.1 i)) ∧ w.2.2.1 i < 7 ∧ X (a + 7) i = nI (Bool.toNat (w.2.2.2 i)) ∧ (w.2.1 i ≠ 1 → w.2.2.2 i = false)
theorem vs_s {X X' : Nat → Nat → Int32} {a sg : Nat} (h : vs_ X a sg) (e : ∀ b i, (b = a ∧ (i = 3 ∨ i = 4)) ∨ b = a + 1 → X' b i = X b i) : vs_ X' a sg := ⟨(e _ _ (Or.inl ⟨rfl, Or.inl rfl⟩)).trans h.1, h.2.1, (e _ _ (Or.inl ⟨rfl, Or.inr rfl⟩)).trans h.2.2.1, fun k hk => (e _ _ (Or.inr rfl)).trans (h.2.2.2 k hk)⟩
theorem vw_s {X X' : Nat → Nat → Int32} {a : Nat} {w : ro_w} (h : vw_ X a w) (e : ∀ b i, (b = a + 3 ∧ i = 6) ∨ b = a + 4 ∨ b = a + 5 ∨ b = a + 7 → X' b i = X b i) : vw_ X' a w := ⟨⟨(e _ _ (Or.inl ⟨rfl, rfl⟩)).trans h.1.1, h.1.2⟩, fun i hi => ⟨(e _ _ (Or.inr (Or.inl rfl))).trans (h.2 i hi).1, (h.2 i hi).2.1, (e _ _ (Or.inr (Or.inr (Or.inl rfl)))).trans (h.2 i hi).2.2.1, (h.2 i hi).2.2.2.1, (e _ _ (Or.inr (Or.inr (Or.inr rfl)))).trans (h.2 i hi).2.2.2.2.1, (h.2 i hi).2.2.2.2.2⟩⟩
/-- one array's first n places hold what another holds -/
def fcp (X : Nat → Nat → Int32) (b c n : Nat) : Nat → Nat → Int32 := fun d j => if d = b ∧ j < n then X c j else X d j
theorem fcp_0 {X : Nat → Nat → Int32} {b c : Nat} : fcp X b c 0 = X := by
  funext d j
  exact if_neg (by omega)
theorem fcp_s {X : Nat → Nat → Int32} {b c n : Nat} : xu (fcp X b c n) b n (X c n) = fcp X b c (n + 1) := by
  funext d j
  unfold xu fcp
  by_cases h : d = b ∧ j = n
  · rw [if_pos h, if_pos ⟨h.1, by omega⟩, h.2]
  · rw [if_neg h]
    by_cases h2 : d = b ∧ j < n
    · rw [if_pos h2, if_pos ⟨h2.1, by omega⟩]
    · rw [if_neg h2, if_neg (fun z => by
        by_cases q : j = n
        · exact h ⟨z.1, q⟩
        · exact h2 ⟨z.1, by omega⟩)]
theorem fcp_a {X : Nat → Nat → Int32} {b c n d j : Nat} (h : d ≠ b) : fcp X b c n d j = X d j := if_neg (fun z => h z.1)
theorem fcp_i {X : Nat → Nat → Int32} {b c n j : Nat} (h : j < n) : fcp X b c n b j = X c j := if_pos ⟨rfl, h⟩
/-- nothing but Spans changes -/
def spy (X X' : Nat → Nat → Int32) : Prop := ∀ a i : Nat, (a < 10 ∨ 19 < a) → X' a i = X a i
theorem spy.rf {X : Nat → Nat → Int32} : spy X X := fun _ _ _ => rfl
theorem spy.tr {X X1 X2 : Nat → Nat → Int32} (a : spy X X1) (b : spy X1 X2) : spy X X2 := fun p q h => (b p q h).trans (a p q h)
theorem spy.up {X X1 : Nat → Nat → Int32} (a : spy X X1) {b i : Nat} {v : Int32} (h : 10 ≤ b ∧ b ≤ 19) : spy X (xu X1 b i v) := fun p q hp => (xu_a (by omega)).trans (a p q hp)
theorem spy.fx {X X1 : Nat → Nat → Int32} (a : spy X X1) {b n : Nat} {v : Int32} (h : 10 ≤ b ∧ b ≤ 19) : spy X (fxa X1 b n v) := fun p q hp => (fxa_a (by omega)).trans (a p q hp)
theorem spx.y {X X' : Nat → Nat → Int32} (h : spx X X') : spy X X' := fun p q hp => h p q (by omega)
theorem spy.vw {X X' : Nat → Nat → Int32} {a : Nat} {w : ro_w} (h : spy X X') (ha : vA a) (hv : vw_ X a w) : vw_ X' a w := vw_s hv (fun b i z => h b i (by have := vA_ge ha; omega))
theorem spy.vs {X X' : Nat → Nat → Int32} {a sg : Nat} (h : spy X X') (ha : vA a) (hv : vs_ X a sg) : vs_ X' a sg := vs_s hv (fun b i z => h b i (by have := vA_ge ha; omega))
section SPS
variable {X : Nat → Nat → Int32} {sz D : Nat} {E U P H PL RS CO AL LI : Nat → Nat}
theorem up_24 {T : Nat → Nat} {k v j : Nat} (hv : v < 2 ^ 24) (h : T j < 2 ^ 24) : rm_up T k v j < 2 ^ 24 := by
  by_cases e : j = k
  · subst e; rw [rm_up_s]; exact hv
  · rw [rm_up_n e]; exact h
theorem sp_D {v : Nat} (h : sp_at X sz D E U P H PL RS CO AL LI) (hv : v < 2 ^ 24) : sp_at (xu X 10 9 (nI v)) sz v E U P H PL RS CO AL LI := by
  obtain ⟨⟨⟨a1, a2⟩, a3, a4⟩, ⟨b1, b2, b3, b4⟩, ⟨c1, c2, c3, c4, c5⟩, d, e⟩ := h
  exact ⟨⟨⟨(xu_i (by decide)).trans a1, a2⟩, xu_s, hv⟩, ⟨tm_xo b1 (by decide), tm_xo b2 (by decide), tm_xo b3 (by decide), tm_xo b4 (by decide)⟩, ⟨tm_xo c1 (by decide), tm_xo c2 (by decide), tm_xo c3 (by decide), tm_xo c4 (by decide), tm_xo c5 (by decide)⟩, d, e⟩
theorem sp_PL {k v : Nat} (h : sp_at X sz D E U P H PL RS CO AL LI) (hv : v < 2 ^ 24) : sp_at (xu X 15 k (nI v)) sz D E U P H (rm_up PL k v) RS CO AL LI := by
  obtain ⟨⟨⟨a1, a2⟩, a3, a4⟩, ⟨b1, b2, b3, b4⟩, ⟨c1, c2, c3, c4, c5⟩, d, e⟩ := h
  exact ⟨⟨⟨(xu_a (by decide)).trans a1, a2⟩, (xu_a (by decide)).trans a3, a4⟩, ⟨tm_xo b1 (by decide), tm_xo b2 (by decide), tm_xo b3 (by decide), tm_xo b4 (by decide)⟩, ⟨tm_xs c1 (by omega), tm_xo c2 (by decide), tm_xo c3 (by decide), tm_xo c4 (by decide), tm_xo c5 (by decide)⟩, fun j hj => ⟨up_24 hv (d j hj).1, (d j hj).2⟩, e⟩
theorem sp_RS {k v : Nat} (h : sp_at X sz D E U P H PL RS CO AL LI) (hv : v < 2 ^ 24) : sp_at (xu X 16 k (nI v)) sz D E U P H PL (rm_up RS k v) CO AL LI := by
  obtain ⟨⟨⟨a1, a2⟩, a3, a4⟩, ⟨b1, b2, b3, b4⟩, ⟨c1, c2, c3, c4, c5⟩, d, e⟩ := h
  exact ⟨⟨⟨(xu_a (by decide)).trans a1, a2⟩, (xu_a (by decide)).trans a3, a4⟩, ⟨tm_xo b1 (by decide), tm_xo b2 (by decide), tm_xo b3 (by decide), tm_xo b4 (by decide)⟩, ⟨tm_xo c1 (by decide), tm_xs c2 (by omega), tm_xo c3 (by decide), tm_xo c4 (by decide), tm_xo c5 (by decide)⟩, fun j hj => ⟨(d j hj).1, up_24 hv (d j hj).2.1, (d j hj).2.2⟩, e⟩
theorem sp_CO {k v : Nat} (h : sp_at X sz D E U P H PL RS CO AL LI) (hv : v < 2 ^ 24) : sp_at (xu X 17 k (nI v)) sz D E U P H PL RS (rm_up CO k v) AL LI := by
  obtain ⟨⟨⟨a1, a2⟩, a3, a4⟩, ⟨b1, b2, b3, b4⟩, ⟨c1, c2, c3, c4, c5⟩, d, e⟩ := h
  exact ⟨⟨⟨(xu_a (by decide)).trans a1, a2⟩, (xu_a (by decide)).trans a3, a4⟩, ⟨tm_xo b1 (by decide), tm_xo b2 (by decide), tm_xo b3 (by decide), tm_xo b4 (by decide)⟩, ⟨tm_xo c1 (by decide), tm_xo c2 (by decide), tm_xs c3 (by omega), tm_xo c4 (by decide), tm_xo c5 (by decide)⟩, fun j hj => ⟨(d j hj).1, (d j hj).2.1, up_24 hv (d j hj).2.2.1, (d j hj).2.2.2⟩, e⟩
theorem sp_AL {k v : Nat} (h : sp_at X sz D E U P H PL RS CO AL LI) (hv : v < 2 ^ 24) : sp_at (xu X 18 k (nI v)) sz D E U P H PL RS CO (rm_up AL k v) LI := by
  obtain ⟨⟨⟨a1, a2⟩, a3, a4⟩, ⟨b1, b2, b3, b4⟩, ⟨c1, c2, c3, c4, c5⟩, d, e⟩ := h
  exact ⟨⟨⟨(xu_a (by decide)).trans a1, a2⟩, (xu_a (by decide)).trans a3, a4⟩, ⟨tm_xo b1 (by decide), tm_xo b2 (by decide), tm_xo b3 (by decide), tm_xo b4 (by decide)⟩, ⟨tm_xo c1 (by decide), tm_xo c2 (by decide), tm_xo c3 (by decide), tm_xs c4 (by omega), tm_xo c5 (by decide)⟩, fun j hj => ⟨(d j hj).1, (d j hj).2.1, (d j hj).2.2.1, up_24 hv (d j hj).2.2.2.1, (d j hj).2.2.2.2⟩, e⟩
theorem sp_LI {k v : Nat} (h : sp_at X sz D E U P H PL RS CO AL LI) (hv : v < 2 ^ 24) : sp_at (xu X 19 k (nI v)) sz D E U P H PL RS CO AL (rm_up LI k v) := by
  obtain ⟨⟨⟨a1, a2⟩, a3, a4⟩, ⟨b1, b2, b3, b4⟩, ⟨c1, c2, c3, c4, c5⟩, d, e⟩ := h
  exact ⟨⟨⟨(xu_a (by decide)).trans a1, a2⟩, (xu_a (by decide)).trans a3, a4⟩, ⟨tm_xo b1 (by decide), tm_xo b2 (by decide), tm_xo b3 (by decide), tm_xo b4 (by decide)⟩, ⟨tm_xo c1 (by decide), tm_xo c2 (by decide), tm_xo c3 (by decide), tm_xo c4 (by decide), tm_xs c5 (by omega)⟩, fun j hj => ⟨(d j hj).1, (d j hj).2.1, (d j hj).2.2.1, (d j hj).2.2.2.1, up_24 hv (d j hj).2.2.2.2⟩, e⟩
/-- all cleared -/
theorem sp_clear {X0 : Nat → Nat → Int32} {sz : Nat} (hs : sz ≤ 24) : sp_at (xu (fxa (fxa (fxa (fxa (fxa (fxa (fxa (fxa (fxa (xu X0 10 9 (nI 0)) 11 3591 (nI 0)) 12 189 (nI 0)) 13 189 (nI 0)) 14 189 (nI 0)) 15 7 (nI 0)) 16 7 (nI 0)) 17 7 (nI 0)) 18 7 (nI 0)) 19 7 (nI 0)) 10 10 (nI sz)) sz 0 (fun _ => 0) (fun _ => 0) (fun _ => 0) (fun _ => 0) (fun _ => 0) (fun _ => 0) (fun _ => 0) (fun _ => 0) (fun _ => 0) := by
  have z27 : (0 : Nat) < 2 ^ 27 := by decide
  have z24 : (0 : Nat) < 2 ^ 24 := by decide
  refine ⟨⟨⟨xu_s, hs⟩, ?_, z24⟩, ⟨fun j hj => ⟨?_, z27⟩, fun j hj => ⟨?_, z27⟩, fun j hj => ⟨?_, z27⟩, fun j hj => ⟨?_, z27⟩⟩, ⟨fun j hj => ⟨?_, z27⟩, fun j hj => ⟨?_, z27⟩, fun j hj => ⟨?_, z27⟩, fun j hj => ⟨?_, z27⟩, fun j hj => ⟨?_, z27⟩⟩, fun j hj => ⟨z24, z24, z24, z24, z24⟩, fun j hj => ⟨rfl, rfl, rfl⟩⟩
  · rw [xu_i (by decide), fxa_a (by decide), fxa_a (by decide), fxa_a (by decide), fxa_a (by decide), fxa_a (by decide), fxa_a (by decide), fxa_a (by decide), fxa_a (by decide), fxa_a (by decide)]; exact xu_s
  all_goals (rw [xu_a (by decide)]; simp [fxa, hj])
end SPS
