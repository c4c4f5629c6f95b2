/-! rows for values: what is as wanted, fits -/
section WRJ
theorem wl_l {c : Nat} {cs : List Nat} : (wl (c :: cs)).length = 1 + c % 2 + (wl cs).length := by
  rw [wl_cons, List.length_append]
  split
  · next h => rw [h]; rfl
  · next h => rw [show c % 2 = 0 from by omega]; rfl
theorem wl_0 {c : Nat} {cs : List Nat} : (wl (c :: cs)).getD 0 (0, 0) = (1, c / 2) := by
  rw [wl_cons]
  split <;> rfl
theorem wl_1 {c : Nat} {cs : List Nat} (h : c % 2 = 1) : (wl (c :: cs)).getD 1 (0, 0) = (3, 0) := by
  rw [wl_cons, if_pos h]
  rfl
theorem wl_s {c q : Nat} {cs : List Nat} : (wl (c :: cs)).getD (1 + c % 2 + q) (0, 0) = (wl cs).getD q (0, 0) := by
  rw [wl_cons]
  split
  · next h =>
    rw [h, show 1 + 1 + q = q + 2 from by omega]
    rfl
  · next h =>
    rw [show c % 2 = 0 from by omega, show 1 + 0 + q = q + 1 from by omega]
    rfl
theorem wl_no {q : Nat} {cs : List Nat} (h : (wl cs).length ≤ q) : (wl cs).getD q (0, 0) = (0, 0) := by
  rw [List.getD_eq_getElem?_getD, List.getElem?_eq_none h]
  rfl
theorem wl_h : ∀ (cs : List Nat), ((wl cs).getD 0 (0, 0)).1 ≠ 3
  | [] => by show (0 : Nat) ≠ 3; decide
  | c :: cs => by rw [wl_0]; show (1 : Nat) ≠ 3; decide
theorem wl_nd : ∀ (cs : List Nat) (q : Nat), ((wl cs).getD q (0, 0)).1 = 3 → ((wl cs).getD (q + 1) (0, 0)).1 ≠ 3
  | [], q, h => absurd (show (0 : Nat) = 3 from h) (by decide)
  | c :: cs, q, h => by
    by_cases c0 : q = 0
    · rw [c0, wl_0] at h; exact absurd (show (1 : Nat) = 3 from h) (by decide)
    · by_cases ho : c % 2 = 1
      · by_cases c1 : q = 1
        · have := wl_s (c := c) (q := 0) (cs := cs)
          rw [ho] at this
          rw [c1]
          have e : (wl (c :: cs)).getD (1 + 1) (0, 0) = (wl cs).getD 0 (0, 0) := this
          rw [e]
          exact wl_h cs
        · have e1 := wl_s (c := c) (q := q - 2) (cs := cs)
          have e2 := wl_s (c := c) (q := q - 2 + 1) (cs := cs)
          rw [ho, show 1 + 1 + (q - 2) = q from by omega] at e1
          rw [ho, show 1 + 1 + (q - 2 + 1) = q + 1 from by omega] at e2
          rw [e1] at h
          rw [e2]
          exact wl_nd cs (q - 2) h
      · have e1 := wl_s (c := c) (q := q - 1) (cs := cs)
        have e2 := wl_s (c := c) (q := q - 1 + 1) (cs := cs)
        rw [show c % 2 = 0 from by omega, show 1 + 0 + (q - 1) = q from by omega] at e1
        rw [show c % 2 = 0 from by omega, show 1 + 0 + (q - 1 + 1) = q + 1 from by omega] at e2
        rw [e1] at h
        rw [e2]
        exact wl_nd cs (q - 1) h
theorem wl_in : ∀ (cs : List Nat) (q : Nat), q < (wl cs).length → (((wl cs).getD q (0, 0)).1 = 1 ∨ ((wl cs).getD q (0, 0)) = (3, 0)) ∧ ((∀ c ∈ cs, c < 14) → ((wl cs).getD q (0, 0)).2 < 7)
  | [], q, h => absurd h (Nat.not_lt_zero _)
  | c :: cs, q, h => by
    by_cases c0 : q = 0
    · rw [c0, wl_0]
      exact ⟨Or.inl rfl, fun hc => by have := hc c List.mem_cons_self; show c / 2 < 7; omega⟩
    · rw [wl_l] at h
      by_cases ho : c % 2 = 1
      · by_cases c1 : q = 1
        · rw [c1, wl_1 ho]
          exact ⟨Or.inr rfl, fun _ => by decide⟩
        · have e1 := wl_s (c := c) (q := q - 2) (cs := cs)
          rw [ho, show 1 + 1 + (q - 2) = q from by omega] at e1
          rw [e1]
          have := wl_in cs (q - 2) (by omega)
          exact ⟨this.1, fun hc => this.2 (fun x hx => hc x (List.mem_cons_of_mem _ hx))⟩
      · have e1 := wl_s (c := c) (q := q - 1) (cs := cs)
        rw [show c % 2 = 0 from by omega, show 1 + 0 + (q - 1) = q from by omega] at e1
        rw [e1]
        have := wl_in cs (q - 1) (by omega)
        exact ⟨this.1, fun hc => this.2 (fun x hx => hc x (List.mem_cons_of_mem _ hx))⟩
theorem wl_len : ∀ (cs : List Nat), (wl cs).length ≤ 2 * cs.length
  | [] => Nat.le_refl _
  | c :: cs => by
    have := wl_len cs
    rw [wl_l, List.length_cons]
    omega
theorem wW_dot {cs : List Nat} {q : Nat} : ro_dot (wW cs) q = decide (((wl cs).getD q (0, 0)).1 = 3) := by
  rw [ro_dot_i]
  show (decide (q < (wl cs).length) && decide (((wl cs).getD q (0, 0)).1 = 3)) = _
  by_cases h : q < (wl cs).length
  · rw [decide_eq_true h, Bool.true_and]
  · rw [wl_no (by omega), decide_eq_false h]
    rfl
theorem wW_rk {cs : List Nat} {sg : Nat} (hs : sg < 16) (hl : cs.length ≤ 3) : rk_ (wW cs) sg (gd_ sg) ∧ ro_dot (wW cs) 0 = false := by
  refine ⟨⟨?_, (gd_perf sg hs).1, (gd_perf sg hs).2, fun q hq => ?_⟩, ?_⟩
  · have := wl_len cs
    show (wl cs).length ≤ 24
    omega
  · rw [wW_dot] at hq ⊢
    exact decide_eq_false (wl_nd cs q (of_decide_eq_true hq))
  · rw [wW_dot]
    exact decide_eq_false (wl_h cs)
/-- the notes have values that a form can give them -/
theorem nk_fit {w : ro_w} {sg : Nat} {V : Nat → Nat} {wv : Nat → Int32} : ∀ (cs : List Nat) (i k : Nat), i + (wl cs).length = w.1 → (∀ q, q < (wl cs).length → w.2.1 (i + q) = ((wl cs).getD q (0, 0)).1 ∧ w.2.2.1 (i + q) = ((wl cs).getD q (0, 0)).2 ∧ w.2.2.2 (i + q) = false) → (∀ q, i ≤ q → q < w.1 → vpk w sg q (V q)) → nk V wv (wl cs) i k = true → fitL sg wv k cs = true
  | [], _, _, _, _, _, _ => rfl
  | c :: cs, i, k, hl, hw, hv, hn => by
    rw [wl_l] at hl
    have h0 := hw 0 (by rw [wl_l]; omega)
    rw [wl_0, Nat.add_zero] at h0
    have hp : ro_plain w i (c / 2) = true := by
      unfold ro_plain
      rw [decide_eq_true (show i < w.1 by omega), h0.1, h0.2.1, h0.2.2]
      simp
    have hd : ro_dot w (i + 1) = decide (c % 2 = 1) := by
      rw [ro_dot_i]
      by_cases ho : c % 2 = 1
      · have h1 := hw 1 (by rw [wl_l]; omega)
        rw [wl_1 ho] at h1
        rw [decide_eq_true (show i + 1 < w.1 by omega), h1.1, decide_eq_true ho]
        rfl
      · rw [decide_eq_false ho]
        by_cases he : i + 1 < w.1
        · have h1 := hw (1 + c % 2 + 0) (by rw [wl_l]; omega)
          rw [wl_s, show c % 2 = 0 from by omega] at h1
          have h2 : w.2.1 (i + 1) = ((wl cs).getD 0 (0, 0)).1 := h1.1
          rw [h2, decide_eq_false (wl_h cs), Bool.and_false]
        · rw [decide_eq_false he]; rfl
    have hc := (hv i (Nat.le_refl _) (by omega)).2.2 _ hp
    rw [hd] at hc
    have hrest : decide (nI (V i) = wv k) = true ∧ nk V wv (wl cs) (i + (1 + c % 2)) (k + 1) = true := by
      rw [wl_cons] at hn
      by_cases ho : c % 2 = 1
      · rw [if_pos ho] at hn
        have hn : (decide (nI (V i) = wv k) && nk V wv (wl cs) (i + 1 + 1) (k + 1)) = true := hn
        rw [Bool.and_eq_true] at hn
        rw [ho]
        exact hn
      · rw [if_neg ho] at hn
        have hn : (decide (nI (V i) = wv k) && nk V wv (wl cs) (i + 1) (k + 1)) = true := hn
        rw [Bool.and_eq_true] at hn
        rw [show c % 2 = 0 from by omega]
        exact hn
    show (fitF sg wv k c && fitL sg wv (k + 1) cs) = true
    rw [show fitF sg wv k c = true from cbe_B hc (of_decide_eq_true hrest.1), Bool.true_and]
    refine nk_fit cs (i + (1 + c % 2)) (k + 1) (by omega) (fun q hq => ?_) (fun q h1 h2 => hv q (by omega) h2) hrest.2
    have := hw (1 + c % 2 + q) (by rw [wl_l]; omega)
    rw [wl_s, show i + (1 + c % 2 + q) = i + (1 + c % 2) + q from by omega] at this
    exact this
theorem wok_fit {sg : Nat} {wv : Nat → Int32} {cs : List Nat} (hs : sg < 16) (hl : cs.length ≤ 3) (h : wok sg wv cs = true) : fitL sg wv 0 cs = true := by
  unfold wok at h
  rw [Bool.and_eq_true, Bool.and_eq_true] at h
  have h0 : 0 < (rD (wW cs) sg).length := of_decide_eq_true h.1.1
  have hy : (rD (wW cs) sg)[0]? = some ((rD (wW cs) sg).getD 0 ([], [])) := by
    rw [List.getD_eq_getElem?_getD, List.getElem?_eq_getElem h0]
    rfl
  have hv := rD_val hs hy
  have hyl := (rD_ok (wW_rk hs hl).1 hy).2
  refine nk_fit (w := wW cs) (V := aV ((rD (wW cs) sg).getD 0 ([], []))) cs 0 0 (Nat.zero_add _) (fun q hq => ?_) (fun q _ h2 => ?_) h.2
  · rw [Nat.zero_add]; exact ⟨rfl, rfl, rfl⟩
  · have := hv q (by rw [hyl]; exact h2)
    rw [Nat.zero_add] at this
    exact this
theorem find_flt2 {α : Type} {p q : α → Bool} : ∀ (l : List α), (∀ a ∈ l, q a = true → p a = true) → (l.filter p).find? q = l.find? q
  | [], _ => rfl
  | a :: l, h => by
    have ih := find_flt2 l (fun b hb => h b (List.mem_cons_of_mem _ hb))
    by_cases hp : p a = true
    · rw [List.filter_cons_of_pos hp]
      by_cases hq : q a = true
      · rw [List.find?_cons_of_pos hq, List.find?_cons_of_pos hq]
      · rw [List.find?_cons_of_neg hq, List.find?_cons_of_neg hq, ih]
    · rw [List.filter_cons_of_neg hp, List.find?_cons_of_neg (fun z => hp (h a List.mem_cons_self z)), ih]
theorem wS_mem {m : Nat} {E : List (List Nat)} {a : List Nat} (h : a ∈ wS (SQ m E)) : a ∈ E := by
  unfold wS at h
  rw [List.mem_map] at h
  obtain ⟨x, hx, rfl⟩ := h
  have hx := (List.mem_filter.mp hx).1
  unfold SQ at hx
  rw [List.mem_flatMap] at hx
  obtain ⟨d, _, hx⟩ := hx
  rw [List.mem_map] at hx
  obtain ⟨y, hy, rfl⟩ := hx
  exact hy
/-- the choices of note i -/
def ftl (sg : Nat) (wv : Nat → Int32) (i : Nat) : List Nat := (List.range 14).filter (fitF sg wv i)
theorem FT_map {sg : Nat} {wv : Nat → Int32} : ∀ (n k : Nat), (FT sg wv k n).map (fun q => q.1.filter q.2) = (List.range' k n).map (ftl sg wv)
  | 0, k => rfl
  | n + 1, k => by
    show (List.range 14).filter (fitF sg wv k) :: (FT sg wv (k + 1) n).map (fun q => q.1.filter q.2) = _
    rw [FT_map n (k + 1), List.range'_succ, List.map_cons]
    rfl
/-- the class looks at fewer rows, and finds the same -/
theorem wRes_ft {sg n : Nat} {wv : Nat → Int32} (hs : sg < 16) (hn : n ≤ 3) : wRes sg n wv = (wS (SQ (n + 1) (ENr ((List.range' 0 n).map (ftl sg wv))))).find? (wok sg wv) := by
  unfold wRes
  rw [← FT_map, ENr_flt, FT_full, wS_flt, find_flt2]
  intro a ha hok
  obtain ⟨h1, -⟩ := ENr_mem n a (wS_mem ha)
  exact FT_fit n 0 a h1 (wok_fit hs (by omega) hok)
theorem ftl_lt {sg : Nat} {wv : Nat → Int32} {i c : Nat} (h : c ∈ ftl sg wv i) : c < 14 := List.mem_range.mp (List.mem_filter.mp h).1
theorem ftl_len {sg : Nat} {wv : Nat → Int32} {i : Nat} : (ftl sg wv i).length ≤ 14 := by
  have := List.length_filter_le (fitF sg wv i) (List.range 14)
  rw [List.length_range] at this
  exact this
end WRJ
