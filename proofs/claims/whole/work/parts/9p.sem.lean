/-! sorting by counting -/
section CSORT
def cum (ks : List Nat) : Nat → Nat
  | 0 => 0
  | s + 1 => cum ks s + ks.count s
def ps2 (ks : List Nat) (h : Nat) : Nat := cum ks (ks.getD h 0) + (ks.take h).count (ks.getD h 0)
theorem cum_le {ks : List Nat} : ∀ s, cum ks s + ks.countP (fun x => decide (s ≤ x)) = ks.length
  | 0 => by
    show 0 + _ = _
    rw [Nat.zero_add, List.countP_eq_length.mpr (fun x _ => by simp)]
  | s + 1 => by
    have h := cum_le (ks := ks) s
    have e : ks.countP (fun x => decide (s ≤ x)) = ks.count s + ks.countP (fun x => decide (s + 1 ≤ x)) := by
      clear h
      induction ks with
      | nil => rfl
      | cons a l ih =>
        rw [List.countP_cons, List.countP_cons, List.count_cons, ih]
        by_cases h1 : a = s
        · subst h1
          have : ¬ a + 1 ≤ a := by omega
          simp [this]; omega
        · by_cases h2 : s ≤ a
          · have : s + 1 ≤ a := by omega
            simp [h1, h2, this]; omega
          · have : ¬ s + 1 ≤ a := by omega
            simp [h1, h2, this]
    show cum ks s + ks.count s + _ = _
    omega
theorem take_count {ks : List Nat} {h : Nat} (hh : h < ks.length) : (ks.take (h + 1)).count (ks.getD h 0) = (ks.take h).count (ks.getD h 0) + 1 ∧ ∀ s, s ≠ ks.getD h 0 → (ks.take (h + 1)).count s = (ks.take h).count s := by
  have e : ks.take (h + 1) = ks.take h ++ [ks.getD h 0] := by
    rw [List.take_add_one, List.getD_eq_getElem?_getD, List.getElem?_eq_getElem hh]
    rfl
  rw [e]
  refine ⟨by rw [List.count_append, List.count_singleton_self], fun s hs => ?_⟩
  rw [List.count_append, List.count_eq_zero_of_not_mem (a := s) (l := [ks.getD h 0]) (by simpa using hs)]
  rfl
theorem take_le {ks : List Nat} {h s : Nat} : (ks.take h).count s ≤ ks.count s := List.Sublist.count_le s (List.take_sublist h ks)
theorem ps2_lt {ks : List Nat} {h : Nat} (hh : h < ks.length) : ps2 ks h < cum ks (ks.getD h 0 + 1) ∧ ps2 ks h < ks.length := by
  have h1 := (take_count hh).1
  have h2 := take_le (ks := ks) (h := h + 1) (s := ks.getD h 0)
  have h3 := cum_le (ks := ks) (ks.getD h 0 + 1)
  unfold ps2
  show _ < cum ks (ks.getD h 0) + ks.count (ks.getD h 0) ∧ _
  have h4 : cum ks (ks.getD h 0 + 1) = cum ks (ks.getD h 0) + ks.count (ks.getD h 0) := rfl
  omega
theorem cum_mono {ks : List Nat} {s t : Nat} (h : s ≤ t) : cum ks s ≤ cum ks t := by
  induction t with
  | zero => rw [show s = 0 from by omega]; exact Nat.le_refl _
  | succ t ih =>
    by_cases e : s = t + 1
    · rw [e]; exact Nat.le_refl _
    · exact Nat.le_trans (ih (by omega)) (Nat.le_add_right _ _)
theorem take_lt_count {ks : List Nat} {h h' : Nat} (hl : h < h') (hh : h' ≤ ks.length) : (ks.take h).count (ks.getD h 0) < (ks.take h').count (ks.getD h 0) := by
  have h1 := (take_count (ks := ks) (h := h) (by omega)).1
  have h2 : (ks.take (h + 1)).count (ks.getD h 0) ≤ (ks.take h').count (ks.getD h 0) := List.Sublist.count_le _ (by
    have : ks.take (h + 1) = (ks.take h').take (h + 1) := by rw [List.take_take, Nat.min_eq_left (by omega)]
    rw [this]
    exact List.take_sublist _ _)
  omega
/-- no two at one place -/
theorem ps2_inj {ks : List Nat} {h h' : Nat} (hh : h < ks.length) (hh' : h' < ks.length) (hl : h < h') : ps2 ks h ≠ ps2 ks h' := by
  intro e
  have a1 := (ps2_lt hh).1
  have a2 := (ps2_lt hh').1
  have b1 : cum ks (ks.getD h 0) ≤ ps2 ks h := Nat.le_add_right _ _
  have b2 : cum ks (ks.getD h' 0) ≤ ps2 ks h' := Nat.le_add_right _ _
  have k : ks.getD h 0 = ks.getD h' 0 := by
    rcases Nat.lt_trichotomy (ks.getD h 0) (ks.getD h' 0) with z | z | z
    · have := cum_mono (ks := ks) (show ks.getD h 0 + 1 ≤ ks.getD h' 0 by omega); omega
    · exact z
    · have := cum_mono (ks := ks) (show ks.getD h' 0 + 1 ≤ ks.getD h 0 by omega); omega
  have c := take_lt_count hl (Nat.le_of_lt hh')
  unfold ps2 at e
  rw [← k] at e
  omega
theorem flt_at {α : Type} {p : α → Bool} : ∀ (R : List α) (h : Nat) (x : α), R[h]? = some x → p x = true → (R.filter p)[(R.take h).countP p]? = some x
  | [], h, x, hx, _ => by simp at hx
  | a :: l, 0, x, hx, hp => by
    have e : a = x := Option.some.inj hx
    subst e
    rw [List.filter_cons_of_pos hp]
    rfl
  | a :: l, h + 1, x, hx, hp => by
    have hx : l[h]? = some x := hx
    have ih := flt_at l h x hx hp
    rw [List.take_succ_cons, List.countP_cons]
    by_cases c : p a = true
    · rw [List.filter_cons_of_pos c, if_pos c]
      exact ih
    · rw [List.filter_cons_of_neg c, if_neg c]
      exact ih
theorem flt_ex {α : Type} {p : α → Bool} : ∀ (R : List α) (i : Nat), i < R.countP p → ∃ h x, R[h]? = some x ∧ p x = true ∧ (R.take h).countP p = i
  | [], i, hi => by simp at hi
  | a :: l, i, hi => by
    rw [List.countP_cons] at hi
    by_cases c : p a = true
    · rw [if_pos c] at hi
      cases i with
      | zero => exact ⟨0, a, rfl, c, rfl⟩
      | succ i =>
        obtain ⟨h, x, h1, h2, h3⟩ := flt_ex (p := p) l i (by omega)
        exact ⟨h + 1, x, h1, h2, by rw [List.take_succ_cons, List.countP_cons, if_pos c, h3]⟩
    · rw [if_neg c] at hi
      obtain ⟨h, x, h1, h2, h3⟩ := flt_ex (p := p) l i (by omega)
      exact ⟨h + 1, x, h1, h2, by rw [List.take_succ_cons, List.countP_cons, if_neg c, h3, Nat.add_zero]⟩
theorem fm_at {α : Type} {G : Nat → List α} {c : Nat → Nat} (h0 : c 0 = 0) (hs : ∀ s, c (s + 1) = c s + (G s).length) : ∀ (n t i : Nat), t < n → i < (G t).length → ((List.range n).flatMap G)[c t + i]? = (G t)[i]? ∧ ((List.range n).flatMap G).length = c n := by
  have hl : ∀ n, ((List.range n).flatMap G).length = c n := by
    intro n
    induction n with
    | zero => rw [h0]; rfl
    | succ n ih => rw [List.range_succ, List.flatMap_append, List.length_append, ih, hs, List.flatMap_cons, List.flatMap_nil, List.append_nil]
  intro n
  induction n with
  | zero => intro t i ht; omega
  | succ n ih =>
    intro t i ht hi
    refine ⟨?_, hl _⟩
    rw [List.range_succ, List.flatMap_append, List.flatMap_cons, List.flatMap_nil, List.append_nil]
    by_cases e : t = n
    · subst e
      rw [List.getElem?_append_right (by rw [hl]; omega), hl, Nat.add_sub_cancel_left]
    · have := (ih t i (by omega) hi).1
      have hc : c t + i < c n := by
        have : ∀ d, c t + i < c (t + 1 + d) := by
          intro d
          induction d with
          | zero => rw [show t + 1 + 0 = t + 1 from rfl, hs]; omega
          | succ d ihd => rw [show t + 1 + (d + 1) = (t + 1 + d) + 1 from rfl, hs]; omega
        have h1 := this (n - (t + 1))
        rw [show t + 1 + (n - (t + 1)) = n from by omega] at h1
        exact h1
      rw [List.getElem?_append_left (by rw [hl]; exact hc)]
      exact this
/-- the list sorted by keys below n -/
def srt {α : Type} (key : α → Nat) (n : Nat) (R : List α) : List α := (List.range n).flatMap (fun s => R.filter (fun x => key x == s))
theorem cnt_map {α : Type} {key : α → Nat} {R : List α} {s : Nat} : (R.map key).count s = R.countP (fun x => key x == s) := by
  rw [List.count, List.countP_map]
  rfl
theorem srt_at {α : Type} {key : α → Nat} {n : Nat} {R : List α} {h : Nat} {x : α} (hx : R[h]? = some x) (hk : key x < n) : (srt key n R)[ps2 (R.map key) h]? = some x := by
  have hg : (R.map key).getD h 0 = key x := by rw [List.getD_eq_getElem?_getD, List.getElem?_map, hx]; rfl
  have h1 := flt_at (p := fun y => key y == key x) R h x hx (by simp)
  have hi : (R.take h).countP (fun y => key y == key x) < (R.filter (fun y => key y == key x)).length := get_lt h1
  have h2 := (fm_at (G := fun s => R.filter (fun x => key x == s)) (c := cum (R.map key)) rfl (fun s => by show cum (R.map key) s + (R.map key).count s = _; rw [cnt_map, List.countP_eq_length_filter]) n (key x) _ hk hi).1
  unfold ps2 srt
  rw [hg, ← List.map_take, cnt_map, h2]
  exact h1
/-- every place is some one's -/
theorem ps2_ex {ks : List Nat} {n r : Nat} (hn : ∀ x ∈ ks, x < n) (hr : r < ks.length) : ∃ h, h < ks.length ∧ ps2 ks h = r := by
  have hc : ks.countP (fun x => decide (n ≤ x)) = 0 := by
    rw [List.countP_eq_zero]
    intro x hx
    have := hn x hx
    simp; omega
  have h0 := cum_le (ks := ks) n
  have key : ∀ s, r < cum ks s → ∃ t i, t < s ∧ i < ks.count t ∧ r = cum ks t + i := by
    intro s
    induction s with
    | zero => intro z; exact absurd z (Nat.not_lt_zero _)
    | succ s ih =>
      intro z
      have z : r < cum ks s + ks.count s := z
      by_cases c : r < cum ks s
      · obtain ⟨t, i, a, b, d⟩ := ih c
        exact ⟨t, i, by omega, b, d⟩
      · exact ⟨s, r - cum ks s, by omega, by omega, by omega⟩
  obtain ⟨t, i, a, b, d⟩ := key n (by omega)
  obtain ⟨h, x, h1, h2, h3⟩ := flt_ex (p := fun y => y == t) ks i b
  have hx : x = t := by simpa using h2
  subst hx
  have hl := get_lt h1
  refine ⟨h, hl, ?_⟩
  unfold ps2
  rw [show ks.getD h 0 = x from by rw [List.getD_eq_getElem?_getD, h1]; rfl]
  have h3 : (ks.take h).count x = i := h3
  omega
end CSORT
