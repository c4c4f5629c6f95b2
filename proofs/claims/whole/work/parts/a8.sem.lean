/-! what values a reading can have -/
section VAL
variable {w : ro_w} {sg g : Nat}
def cbe (sg k : Nat) (dt : Bool) (v : Nat) : Prop := v = fl_ sg k ∨ (sp_perf sg k = true ∧ v = 2 * fl_ sg (k + 1)) ∨ (1 ≤ k ∧ sp_perf sg (k - 1) = true ∧ v = 2 * fl_ sg k) ∨ (dt = true ∧ k < 6 ∧ sp_perf sg k = false ∧ v = 3 * fl_ sg (k + 1))
def vpk (w : ro_w) (sg q v : Nat) : Prop := (ro_dot w q = true → v = 0) ∧ v ≤ 972 ∧ ∀ k, ro_plain w q k = true → cbe sg k (ro_dot w (q + 1)) v
def vpl (w : ro_w) (sg p : Nat) (l : List Nat) : Prop := ∀ i, i < l.length → vpk w sg (p + i) (l.getD i 0)
theorem vpl_nil {p : Nat} : vpl w sg p [] := fun i hi => absurd hi (Nat.not_lt_zero _)
theorem vpl_cons {p v : Nat} {l : List Nat} (h : vpk w sg p v) (hl : vpl w sg (p + 1) l) : vpl w sg p (v :: l) := fun i hi => by
  cases i with
  | zero => exact h
  | succ i =>
    have := hl i (by rw [List.length_cons] at hi; omega)
    rw [show p + (i + 1) = p + 1 + i from by omega]
    exact this
theorem vpl_app {p : Nat} : ∀ {l1 l2 : List Nat}, vpl w sg p l1 → vpl w sg (p + l1.length) l2 → vpl w sg p (l1 ++ l2) := by
  intro l1
  induction l1 generalizing p with
  | nil => intro l2 _ h; exact h
  | cons v l ih =>
    intro l2 h1 h2
    have h3 := ih (p := p + 1) (l2 := l2) (fun i hi => by
      have := h1 (i + 1) (by rw [List.length_cons]; omega)
      rw [show p + 1 + i = p + (i + 1) from by omega]
      exact this) (by rw [List.length_cons] at h2; rw [show p + 1 + l.length = p + (l.length + 1) from by omega]; exact h2)
    exact vpl_cons (h1 0 (by rw [List.length_cons]; omega)) h3
theorem fl_b1 : ∀ sg, sg < 16 → ∀ k, k < 7 → fl_ sg k ≤ 972 ∧ fl_ sg (k + 1) ≤ 324 ∧ (k < 6 → sp_perf sg k = false → fl_ sg k = 2 * fl_ sg (k + 1)) := by decide +kernel
theorem fl_b2 (h : sg < 16) (k : Nat) : fl_ sg k ≤ 972 ∧ fl_ sg (k + 1) ≤ 324 := by
  by_cases c : k < 7
  · exact ⟨(fl_b1 sg h k c).1, (fl_b1 sg h k c).2.1⟩
  · have e : ∀ j, 6 ≤ j → fl_ sg j = 3 := fun j hj => by unfold fl_; rw [show 6 - j = 0 from by omega]; rfl
    rw [e k (by omega), e (k + 1) (by omega)]
    omega
theorem pl_nd {q k : Nat} (h : ro_plain w q k = true) : ro_dot w q = false := by
  unfold ro_plain at h
  unfold ro_dot
  simp at h
  simp [h.2.1]
theorem pl_k {q k k' : Nat} (h : ro_plain w q k = true) (h' : ro_plain w q k' = true) : k' = k := by
  unfold ro_plain at h h'
  simp at h h'
  omega
theorem vp_plain {q k v : Nat} (h : ro_plain w q k = true) (hv : v ≤ 972) (hc : cbe sg k (ro_dot w (q + 1)) v) : vpk w sg q v := ⟨(fun z => by rw [pl_nd h] at z; cases z), hv, fun k' h' => by rw [pl_k h h']; exact hc⟩
theorem vp_dot {q : Nat} (h : ro_dot w q = true) : vpk w sg q 0 := ⟨fun _ => rfl, by omega, fun k h' => by rw [pl_nd h'] at h; cases h⟩
theorem vp_rest {q k v : Nat} (h : ro_rest w q k = true) (hv : v ≤ 972) : vpk w sg q v := by
  unfold ro_rest at h
  simp at h
  refine ⟨fun z => ?_, hv, fun k' h' => ?_⟩
  · unfold ro_dot at z; simp at z; omega
  · unfold ro_plain at h'; simp at h'; omega
theorem vp_dyed {q k v : Nat} (h : ro_dyed w q k = true) (hv : v ≤ 972) : vpk w sg q v := by
  unfold ro_dyed at h
  simp at h
  refine ⟨fun z => ?_, hv, fun k' h' => ?_⟩
  · unfold ro_dot at z; simp at z; omega
  · unfold ro_plain at h'
    simp at h'
    rw [h.2.2.1] at h'
    exact absurd h'.2.2.1 (by decide)
theorem vp_iv (hs : sg < 16) (hg : ∀ k, k < g → sp_perf sg k = false) (hg4 : g ≤ 4) {k f p : Nat} (hh : hd_ w sg g k f p = true) : vpl w sg p (iv_ sg k f) := by
  have hb := fl_b2 hs k
  unfold hd_ at hh
  unfold iv_
  by_cases c1 : f = 1
  · rw [if_pos (Or.inl c1)]
    rw [if_pos c1] at hh
    exact vpl_cons (vp_plain hh hb.1 (Or.inl rfl)) vpl_nil
  rw [if_neg c1] at hh
  by_cases c2 : f = 2
  · rw [if_pos (Or.inr c2)]
    rw [if_pos c2] at hh
    exact vpl_cons (vp_rest hh hb.1) vpl_nil
  rw [if_neg c2] at hh
  rw [if_neg (by omega)]
  by_cases c3 : f = 3
  · rw [if_pos c3]
    rw [if_pos c3, Bool.and_eq_true, Bool.and_eq_true] at hh
    exact vpl_cons (vp_plain hh.2.1 hb.1 (Or.inl rfl)) (vpl_cons (vp_dot hh.2.2) vpl_nil)
  rw [if_neg c3] at hh
  rw [if_neg c3]
  by_cases c4 : f = 4 ∨ f = 5 ∨ f = 14
  · rw [if_neg (by omega), if_neg (by omega), if_neg (by omega), if_neg (by omega), if_neg (by omega)]; exact vpl_nil
  rw [if_neg c4] at hh
  by_cases c6 : f = 6 ∨ f = 8 ∨ f = 9 ∨ f = 10 ∨ f = 11
  · rw [if_neg (by omega), if_neg (by omega), if_neg (by omega), if_neg (by omega), if_neg (by omega)]; exact vpl_nil
  rw [if_neg c6] at hh
  by_cases c7 : f = 7
  · rw [if_pos c7]
    rw [if_pos c7, Bool.and_eq_true] at hh
    exact vpl_cons (vp_plain hh.2 (by omega) (Or.inr (Or.inl ⟨hh.1, rfl⟩))) vpl_nil
  rw [if_neg c7] at hh
  rw [if_neg c7]
  by_cases c13 : f = 13
  · rw [if_pos c13]
    rw [if_pos c13, Bool.and_eq_true, Bool.and_eq_true, Bool.and_eq_true] at hh
    have hp : sp_perf sg k = false := by have := hh.1.1; simpa using this
    exact vpl_cons (vp_plain hh.2.1 (by omega) (Or.inr (Or.inr (Or.inr ⟨hh.2.2, of_decide_eq_true hh.1.2, hp, rfl⟩)))) (vpl_cons (vp_dot hh.2.2) vpl_nil)
  rw [if_neg c13] at hh
  rw [if_neg c13]
  by_cases c15 : f = 15
  · rw [if_neg (by omega), if_neg (by omega), if_neg (by omega)]; exact vpl_nil
  rw [if_neg c15] at hh
  by_cases c16 : f = 16
  · rw [if_pos c16]
    rw [if_pos c16] at hh
    exact vpl_cons (vp_dyed hh (by omega)) vpl_nil
  rw [if_neg c16] at hh
  rw [if_neg c16]
  by_cases c17 : f = 17
  · rw [if_pos c17]
    rw [if_pos c17, Bool.and_eq_true, Bool.and_eq_true] at hh
    exact vpl_cons (vp_dyed hh.2.1 (by omega)) (vpl_cons (vp_dyed hh.2.2 (by omega)) vpl_nil)
  rw [if_neg c17] at hh
  rw [if_neg c17]
  by_cases c18 : f = 18
  · rw [if_pos c18]
    rw [if_pos c18, Bool.and_eq_true, Bool.and_eq_true, decide_eq_true_eq] at hh
    have hp := hg k hh.1
    have e := (fl_b1 sg hs k (by omega)).2.2 (by omega) hp
    refine vpl_cons (vp_plain hh.2.1 (by omega) (Or.inr (Or.inr (Or.inr ⟨hh.2.2, by omega, hp, by omega⟩)))) (vpl_cons (vp_dot hh.2.2) vpl_nil)
  · rw [if_neg c18] at hh; cases hh
def tvk (sg : Nat) (t : gK) : Prop := (t.1 = 4 → 1 ≤ t.2.1 ∧ sp_perf sg (t.2.1 - 1) = true ∧ t.2.2 = 2 * fl_ sg t.2.1) ∧ (t.1 = 7 → sp_perf sg t.2.1 = true ∧ t.2.2 = 2 * fl_ sg (t.2.1 + 1)) ∧ (t.1 = 5 → t.2.1 < 6 ∧ sp_perf sg t.2.1 = false ∧ t.2.2 = 3 * fl_ sg (t.2.1 + 1))
theorem tvk_ts {k f p : Nat} (hh : hd_ w sg g k f p = true) : ∀ t ∈ ts_ sg k f, tvk sg t := by
  intro t ht
  unfold ts_ at ht
  rw [List.mem_append] at ht
  rcases ht with ht | ht
  · have h0 : ∀ t : gK, t.1 ≤ 3 → tvk sg t := fun t ht => ⟨fun z => by omega, fun z => by omega, fun z => by omega⟩
    unfold t0_ at ht
    split at ht
    · simp only [List.mem_cons, List.not_mem_nil, or_false] at ht; rcases ht with rfl | rfl <;> exact h0 _ (Nat.le_of_ble_eq_true rfl)
    split at ht
    · simp only [List.mem_cons, List.not_mem_nil, or_false] at ht; subst ht; exact h0 _ (Nat.le_of_ble_eq_true rfl)
    split at ht
    · simp only [List.mem_cons, List.not_mem_nil, or_false] at ht; rcases ht with rfl | rfl | rfl <;> exact h0 _ (Nat.le_of_ble_eq_true rfl)
    split at ht
    · simp only [List.mem_cons, List.not_mem_nil, or_false] at ht; subst ht; exact h0 _ (Nat.le_of_ble_eq_true rfl)
    split at ht
    · next c8 =>
      subst c8
      have hp : sp_perf sg k = true := hh
      simp only [List.mem_cons, List.not_mem_nil, or_false] at ht
      rcases ht with rfl | rfl
      · exact h0 _ (Nat.le_of_ble_eq_true rfl)
      · exact ⟨fun _ => ⟨by show 1 ≤ k + 1; omega, hp, rfl⟩, fun z => absurd (show (4 : Nat) = 7 from z) (by decide), fun z => absurd (show (4 : Nat) = 5 from z) (by decide)⟩
    split at ht
    · next c9 =>
      subst c9
      have hp : sp_perf sg k = true := hh
      simp only [List.mem_cons, List.not_mem_nil, or_false] at ht
      rcases ht with rfl | rfl
      · exact h0 _ (Nat.le_of_ble_eq_true rfl)
      · exact ⟨fun z => absurd (show (7 : Nat) = 4 from z) (by decide), fun _ => ⟨hp, rfl⟩, fun z => absurd (show (7 : Nat) = 5 from z) (by decide)⟩
    split at ht
    · simp only [List.mem_cons, List.not_mem_nil, or_false] at ht; rcases ht with rfl | rfl <;> exact h0 _ (Nat.le_of_ble_eq_true rfl)
    split at ht
    · simp only [List.mem_cons, List.not_mem_nil, or_false] at ht; rcases ht with rfl | rfl <;> exact h0 _ (Nat.le_of_ble_eq_true rfl)
    split at ht
    · simp only [List.mem_cons, List.not_mem_nil, or_false] at ht; subst ht; exact h0 _ (Nat.le_of_ble_eq_true rfl)
    split at ht
    · next c14 =>
      subst c14
      have hp : (!(sp_perf sg k) && decide (k < 6)) = true := hh
      rw [Bool.and_eq_true] at hp
      have hp1 : sp_perf sg k = false := by have := hp.1; simpa using this
      simp only [List.mem_cons, List.not_mem_nil, or_false] at ht
      rcases ht with rfl | rfl
      · exact h0 _ (Nat.le_of_ble_eq_true rfl)
      · exact ⟨fun z => absurd (show (5 : Nat) = 4 from z) (by decide), fun z => absurd (show (5 : Nat) = 7 from z) (by decide), fun _ => ⟨of_decide_eq_true hp.2, hp1, rfl⟩⟩
    split at ht
    · simp only [List.mem_cons, List.not_mem_nil, or_false] at ht; rcases ht with rfl | rfl | rfl <;> exact h0 _ (Nat.le_of_ble_eq_true rfl)
    · cases ht
  · split at ht
    · unfold dv_ at ht
      split at ht
      · rw [List.mem_singleton] at ht
        subst ht
        exact ⟨fun z => absurd (show (6 : Nat) = 4 from z) (by decide), fun z => absurd (show (6 : Nat) = 7 from z) (by decide), fun z => absurd (show (6 : Nat) = 5 from z) (by decide)⟩
      · cases ht
    · cases ht
theorem dvn_mem2 : ∀ {ts : List gK} {t : gK}, t ∈ (dvn ts).2 → t ∈ ts := by
  intro ts
  induction ts with
  | nil => intro t h; exact h
  | cons u ts ih =>
    intro t h
    unfold dvn at h
    split at h
    · exact List.mem_cons_of_mem _ (ih h)
    · exact h
theorem B1_val (hs : sg < 16) (hg : ∀ k, k < g → sp_perf sg k = false) (hg4 : g ≤ 4) {row : Nat → List gL} (hr : ∀ q, ∀ x ∈ row q, vpl w sg q x.2.1.2) : ∀ m ts p, (∀ t ∈ ts, tvk sg t) → ∀ x ∈ B1 w sg g row m ts p, vpl w sg p x.2.1.2 := by
  intro m
  induction m with
  | zero =>
    intro ts p ht x hx
    cases ts with
    | nil => exact hr p x (by unfold B1 at hx; exact hx)
    | cons t r => unfold B1 at hx; cases hx
  | succ m ih =>
    intro ts p ht x hx
    cases ts with
    | nil => exact hr p x (by unfold B1 at hx; exact hx)
    | cons t r =>
      have htr : ∀ u ∈ r, tvk sg u := fun u hu => ht u (List.mem_cons_of_mem _ hu)
      have ht0 := ht t List.mem_cons_self
      unfold B1 at hx
      split at hx
      · rw [List.mem_flatMap] at hx
        obtain ⟨f, hf, hx⟩ := hx
        split at hx
        · next hh =>
          rw [List.mem_map] at hx
          obtain ⟨y, hy, rfl⟩ := hx
          have h1 := ih _ _ (fun u hu => by
            rw [List.mem_append] at hu
            rcases hu with hu | hu
            · exact tvk_ts hh u hu
            · exact htr u hu) y hy
          exact vpl_app (vp_iv hs hg hg4 hh) h1
        · cases hx
      · split at hx
        · next c4 =>
          split at hx
          · next hal =>
            rw [List.mem_map] at hx
            obtain ⟨y, hy, rfl⟩ := hx
            unfold al_ at hal
            rw [Bool.and_eq_true] at hal
            obtain ⟨q1, q2, q3⟩ := ht0.1 c4
            have hb := fl_b2 hs (t.2.1 - 1)
            rw [show t.2.1 - 1 + 1 = t.2.1 from by omega] at hb
            exact vpl_cons (vp_plain hal.1 (by omega) (Or.inr (Or.inr (Or.inl ⟨q1, q2, q3⟩)))) (ih _ _ htr y hy)
          · cases hx
        · split at hx
          · next c7 =>
            split at hx
            · next hli =>
              rw [List.mem_map] at hx
              obtain ⟨y, hy, rfl⟩ := hx
              unfold li_ at hli
              rw [Bool.and_eq_true] at hli
              obtain ⟨q2, q3⟩ := ht0.2.1 c7
              have hb := fl_b2 hs t.2.1
              exact vpl_cons (vp_plain hli.1 (by omega) (Or.inr (Or.inl ⟨q2, q3⟩))) (ih _ _ htr y hy)
            · cases hx
          · split at hx
            · next c5 =>
              split at hx
              · next hdo =>
                rw [List.mem_map] at hx
                obtain ⟨y, hy, rfl⟩ := hx
                unfold do_ at hdo
                rw [Bool.and_eq_true] at hdo
                obtain ⟨q1, q2, q3⟩ := ht0.2.2 c5
                have hb := fl_b2 hs t.2.1
                exact vpl_cons (vp_plain hdo.1 (by omega) (Or.inr (Or.inr (Or.inr ⟨hdo.2, q1, q2, q3⟩)))) (vpl_cons (vp_dot hdo.2) (ih _ _ htr y hy))
              · cases hx
            · split at hx
              · have hd2 : ∀ u ∈ (dvn (t :: r)).2, tvk sg u := fun u hu => ht u (dvn_mem2 hu)
                split at hx
                · next hdt =>
                  rw [List.mem_map] at hx
                  obtain ⟨y, hy, rfl⟩ := hx
                  exact vpl_cons (vp_dot hdt) (ih _ _ hd2 y hy)
                · exact ih _ _ hd2 x hx
              · cases hx
theorem Brf_val (hs : sg < 16) (hg : ∀ k, k < g → sp_perf sg k = false) (hg4 : g ≤ 4) : ∀ n p, ∀ x ∈ Brf w sg g n p, vpl w sg p x.2.1.2 := by
  intro n
  induction n with
  | zero =>
    intro p x hx
    unfold Brf at hx
    split at hx
    · rw [List.mem_singleton] at hx; subst hx; exact vpl_nil
    · cases hx
  | succ n ih =>
    intro p x hx
    unfold Brf at hx
    split at hx
    · rw [List.mem_singleton] at hx; subst hx; exact vpl_nil
    · rw [List.mem_flatMap] at hx
      obtain ⟨ch, hc, hx⟩ := hx
      split at hx
      · cases hx
      · split at hx
        · next hh =>
          rw [List.mem_map] at hx
          obtain ⟨y, hy, rfl⟩ := hx
          exact vpl_app (vp_iv hs hg hg4 hh) (B1_val hs hg hg4 ih _ _ _ (tvk_ts hh) y hy)
        · cases hx
theorem sS_mem {k : Nat} {x : gL} (h : (sS w sg)[k]? = some x) : x ∈ Br w sg (gd_ sg) 0 := by
  have := List.mem_of_getElem? h
  unfold sS srt at this
  rw [List.mem_flatMap] at this
  obtain ⟨_, _, h2⟩ := this
  exact RR_mem (List.mem_filter.mp h2).1
theorem rD_val {r : Nat} {y : gR} (hs : sg < 16) (h : (rD w sg)[r]? = some y) : vpl w sg 0 y.2 := by
  obtain ⟨x, hx, rfl⟩ := rD_sS h
  exact Brf_val hs (gd_perf sg hs).2 (gd_perf sg hs).1 _ _ x (sS_mem hx)
end VAL
