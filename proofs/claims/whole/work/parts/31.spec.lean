/-! picking by rank -/
def pk_ : List sc_O → Nat → Option (sc_O × Nat)
  | [], _ => none
  | e :: l, r => if r < e.2.2.2.2 then some (e, r) else pk_ l (r - e.2.2.2.2)
theorem sc_keep : ∀ (l : List sc_O) (S : sc_S), S.2.2.1 = true → (List.foldl sc_step S l).2 = S.2
  | [], _, _ => rfl
  | e :: l, S, h => by
    have ht : sc_take S e = S := if_neg (by rintro ⟨z, -, -⟩; rw [h] at z; cases z)
    rw [List.foldl_cons]
    by_cases hn : e.2.2.2.2 = 0
    · rw [show sc_step S e = S from if_pos hn]
      exact sc_keep l S h
    · have hs : sc_step S e = (min (S.1 + e.2.2.2.2) 3000, S.2) := by
        unfold sc_step
        rw [if_neg hn, ht]
      rw [hs, sc_keep l (min (S.1 + e.2.2.2.2) 3000, S.2) h]
theorem sc_pick : ∀ (l : List sc_O) (c r : Nat) (x : Nat × Nat × Nat × Bool × Nat) (e : sc_O) (q : Nat), c + r < 3000 → pk_ l r = some (e, q) → (List.foldl sc_step (c, ((c + r : Nat) : Int), false, x) l).2 = (((c + r : Nat) : Int), true, e.1, e.2.1, e.2.2.1, e.2.2.2.1, q)
  | [], c, r, x, e, q, hc, h => by cases h
  | e0 :: l, c, r, x, e, q, hc, h => by
    rw [List.foldl_cons]
    unfold pk_ at h
    by_cases h1 : r < e0.2.2.2.2
    · rw [if_pos h1] at h
      cases h
      have hs : sc_step (c, ((c + r : Nat) : Int), false, x) e0 = (min (c + e0.2.2.2.2) 3000, ((c + r : Nat) : Int), true, e0.1, e0.2.1, e0.2.2.1, e0.2.2.2.1, r) := by
        unfold sc_step sc_take
        dsimp only
        rw [if_neg (by omega), if_pos ⟨rfl, by omega, by omega⟩]
        dsimp only
        rw [show ((c + r : Nat) : Int).toNat - c = r from by omega]
      rw [hs, sc_keep l _ rfl]
    · rw [if_neg h1] at h
      by_cases hn : e0.2.2.2.2 = 0
      · rw [show sc_step (c, ((c + r : Nat) : Int), false, x) e0 = (c, ((c + r : Nat) : Int), false, x) from if_pos hn]
        rw [hn, Nat.sub_zero] at h
        exact sc_pick l c r x e q hc h
      · have hs : sc_step (c, ((c + r : Nat) : Int), false, x) e0 = (c + e0.2.2.2.2, ((c + e0.2.2.2.2 + (r - e0.2.2.2.2) : Nat) : Int), false, x) := by
          unfold sc_step sc_take
          dsimp only
          rw [if_neg hn, if_neg (by rintro ⟨-, -, z⟩; omega)]
          rw [show c + e0.2.2.2.2 + (r - e0.2.2.2.2) = c + r from by omega, Nat.min_eq_left (by omega)]
        rw [hs, sc_pick l _ _ x e q (by omega) h]
        rw [show c + e0.2.2.2.2 + (r - e0.2.2.2.2) = c + r from by omega]
theorem pk_mem : ∀ (l : List sc_O) (r : Nat) (e : sc_O) (q : Nat), pk_ l r = some (e, q) → e ∈ l ∧ q < e.2.2.2.2 ∧ q ≤ r
  | [], _, _, _, h => by cases h
  | e0 :: l, r, e, q, h => by
    unfold pk_ at h
    by_cases h1 : r < e0.2.2.2.2
    · rw [if_pos h1] at h
      cases h
      exact ⟨List.mem_cons_self, h1, Nat.le_refl _⟩
    · rw [if_neg h1] at h
      obtain ⟨h2, h3, h4⟩ := pk_mem l _ e q h
      exact ⟨List.mem_cons_of_mem _ h2, h3, by omega⟩
theorem sp_rg_mem {a b m : Nat} : m ∈ sp_rg a b ↔ a < m ∧ m < b := by
  unfold sp_rg
  rw [List.mem_range'_1]
  omega
theorem th_inv {w : ro_w} {k a b : Nat} {e : sc_O} (h : e ∈ sp_thirds w k a b) : ∃ m p, a < m ∧ m < p ∧ p < b ∧ e = sp_t2 w k a b m p := by
  unfold sp_thirds at h
  rw [List.mem_flatMap] at h
  obtain ⟨m, hm, h⟩ := h
  rw [List.mem_map] at h
  obtain ⟨p, hp, rfl⟩ := h
  rw [sp_rg_mem] at hm hp
  exact ⟨m, p, hm.1, hp.1, hp.2, rfl⟩
def op_3 (k a b c c2 : Nat) (P : tk_P) : tk_P := op_p (2, k, a, c, 0) (op_p (2, k, c, c2, 0) (op_p (2, k, c2, b, 0) (op_t 15 P)))
def op_d (sg k a b : Nat) (P : tk_P) : tk_P := if b = a + 1 then op_l a (2 * fl_ sg k / 3) (op_t 16 P) else op_l (a + 1) (fl_ sg k / 3) (op_l a (fl_ sg k / 3) (op_t 17 P))
def op_g (w : ro_w) (sg k a b rank : Nat) (P : tk_P) : tk_P := if b = a + 1 then op_l a (fl_ sg k) (op_t (if ro_rest w a k = true then 2 else 1) P) else if b = a + 2 ∧ ro_plain w a k = true then op_l a (fl_ sg k + fl_ sg k / 2) (op_t 18 P) else match pk_ (sp_thirds w k a b) rank with
  | some (e, _) => op_3 k a b e.2.1 e.2.2.1 P
  | none => P
def op_pr (sg k a b : Nat) (e : sc_O) (q : Nat) (P : tk_P) : tk_P := if e.1 = 15 then op_3 k a b e.2.1 e.2.2.1 P else if e.1 = 13 then op_p (0, k + 1, a + 2, b, q) (op_l a (3 * fl_ sg (k + 1)) (op_t 13 P)) else op_p (0, k + 1, a, b - 2, q) (op_l (b - 2) (3 * fl_ sg (k + 1)) (op_t 14 P))
