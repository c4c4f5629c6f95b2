/-! a unit taken out -/
def op_v (sg : Nat) (T : Nat → Nat) (k a to f c c2 q : Nat) (P : tk_P) : tk_P :=
  if f ≤ 3 then op_l a (fl_ sg k) P
  else if f = 4 then op_p (0, k + 1, a, c, q / tb_w T 0 (k + 1) c to) (op_p (0, k + 1, c, to, q % tb_w T 0 (k + 1) c to) P)
  else if f = 5 then op_p (1, k + 1, a, to, q) P
  else if f = 6 then op_p (0, k + 1, a, c, q / tb_w T 0 (k + 1) c2 to / tb_w T 0 (k + 1) c c2) (op_p (0, k + 1, c, c2, q / tb_w T 0 (k + 1) c2 to % tb_w T 0 (k + 1) c c2) (op_p (0, k + 1, c2, to, q % tb_w T 0 (k + 1) c2 to) P))
  else if f = 7 then op_p (0, k + 1, a + 1, to, q) (op_l a (2 * fl_ sg (k + 1)) P)
  else if f ≤ 9 then op_p (0, k + 1, a, c, q) (op_l c (2 * fl_ sg (k + 1)) P)
  else if f = 10 then op_p (0, k + 1, a, c, q / tb_w T 1 (k + 1) c to) (op_p (1, k + 1, c, to, q % tb_w T 1 (k + 1) c to) P)
  else op_p (1, k + 1, a, c, q / tb_w T 0 (k + 1) c to) (op_p (0, k + 1, c, to, q % tb_w T 0 (k + 1) c to) P)
def op_u (sg : Nat) (T : Nat → Nat) (k a b : Nat) (e : sc_O) (q : Nat) (P : tk_P) : tk_P := op_v sg T k a (if e.2.2.2.1 = true then b - 1 else b) e.1 e.2.1 e.2.2.1 q (if e.2.2.2.1 = true then op_p (4, 12, 0, 0, 0) (op_t e.1 P) else op_t e.1 P)
section OPV
variable {sg : Nat} {T : Nat → Nat} {k a to f c c2 q : Nat} {P : tk_P}
theorem op_v1 (h : f = 1) : op_v sg T k a to f c c2 q P = op_l a (fl_ sg k) P := by subst h; rfl
theorem op_v2 (h : f = 2) : op_v sg T k a to f c c2 q P = op_l a (fl_ sg k) P := by subst h; rfl
theorem op_v3 (h : f = 3) : op_v sg T k a to f c c2 q P = op_l a (fl_ sg k) P := by subst h; rfl
theorem op_v4 (h : f = 4) : op_v sg T k a to f c c2 q P = op_p (0, k + 1, a, c, q / tb_w T 0 (k + 1) c to) (op_p (0, k + 1, c, to, q % tb_w T 0 (k + 1) c to) P) := by subst h; rfl
theorem op_v5 (h : f = 5) : op_v sg T k a to f c c2 q P = op_p (1, k + 1, a, to, q) P := by subst h; rfl
theorem op_v6 (h : f = 6) : op_v sg T k a to f c c2 q P = op_p (0, k + 1, a, c, q / tb_w T 0 (k + 1) c2 to / tb_w T 0 (k + 1) c c2) (op_p (0, k + 1, c, c2, q / tb_w T 0 (k + 1) c2 to % tb_w T 0 (k + 1) c c2) (op_p (0, k + 1, c2, to, q % tb_w T 0 (k + 1) c2 to) P)) := by subst h; rfl
theorem op_v7 (h : f = 7) : op_v sg T k a to f c c2 q P = op_p (0, k + 1, a + 1, to, q) (op_l a (2 * fl_ sg (k + 1)) P) := by subst h; rfl
theorem op_v8 (h : f = 8) : op_v sg T k a to f c c2 q P = op_p (0, k + 1, a, c, q) (op_l c (2 * fl_ sg (k + 1)) P) := by subst h; rfl
theorem op_v9 (h : f = 9) : op_v sg T k a to f c c2 q P = op_p (0, k + 1, a, c, q) (op_l c (2 * fl_ sg (k + 1)) P) := by subst h; rfl
theorem op_v10 (h : f = 10) : op_v sg T k a to f c c2 q P = op_p (0, k + 1, a, c, q / tb_w T 1 (k + 1) c to) (op_p (1, k + 1, c, to, q % tb_w T 1 (k + 1) c to) P) := by subst h; rfl
theorem op_v11 (h : f = 11) : op_v sg T k a to f c c2 q P = op_p (1, k + 1, a, c, q / tb_w T 0 (k + 1) c to) (op_p (0, k + 1, c, to, q % tb_w T 0 (k + 1) c to) P) := by subst h; rfl
end OPV
/-- what a picked offer of a unit is: its form, its cuts, the ways behind the cuts are there -/
def un_v (T : Nat → Nat) (k a to : Nat) (f c c2 : Nat) : Prop :=
  (1 ≤ f ∧ f ≤ 3) ∨ (f = 4 ∧ k < 6 ∧ a < c ∧ c < to ∧ 0 < tb_w T 0 (k + 1) c to ∧ 0 < tb_w T 0 (k + 1) a c) ∨ (f = 5 ∧ k < 6) ∨ (f = 6 ∧ k < 4 ∧ a < c ∧ c < c2 ∧ c2 < to ∧ 0 < tb_w T 0 (k + 1) c2 to ∧ 0 < tb_w T 0 (k + 1) c c2 ∧ 0 < tb_w T 0 (k + 1) a c) ∨ (f = 7 ∧ k < 4 ∧ a + 1 ≤ to) ∨ ((f = 8 ∨ f = 9) ∧ k < 4 ∧ a < c ∧ c = to - 1) ∨ (f = 10 ∧ k < 4 ∧ a < c ∧ c < to ∧ 0 < tb_w T 1 (k + 1) c to ∧ 0 < tb_w T 0 (k + 1) a c) ∨ (f = 11 ∧ k < 4 ∧ a < c ∧ c < to ∧ 0 < tb_w T 0 (k + 1) c to ∧ 0 < tb_w T 1 (k + 1) a c)
theorem per_inv {w : ro_w} {T : Nat → Nat} {k a b : Nat} {dot : Bool} {e : sc_O} {q : Nat} (hk : k < 4) (h : e ∈ sp_per w T k a b dot) (hq : q < e.2.2.2.2) : e.2.2.2.1 = dot ∧ un_v T k a b e.1 e.2.1 e.2.2.1 := by
  have pos2 : ∀ x y : Nat, q < x * y → 0 < x ∧ 0 < y := fun x y h => ⟨Nat.pos_of_ne_zero (fun z => by rw [z, Nat.zero_mul] at h; omega), Nat.pos_of_ne_zero (fun z => by rw [z, Nat.mul_zero] at h; omega)⟩
  unfold sp_per at h
  rcases List.mem_append.mp h with h | h
  · unfold sp_p6 at h
    rw [List.mem_flatMap] at h
    obtain ⟨m, hm, h⟩ := h
    by_cases hf : 0 < tb_w T 0 (k + 1) a m
    · rw [if_pos hf, List.mem_map] at h
      obtain ⟨p, hp, rfl⟩ := h
      rw [sp_rg_mem] at hm hp
      obtain ⟨h1, h2⟩ := pos2 _ _ hq
      have h3 : 0 < tb_w T 0 (k + 1) m p := Nat.pos_of_ne_zero (fun z => by rw [z, Nat.mul_zero, Nat.zero_min] at h1; omega)
      exact ⟨rfl, Or.inr (Or.inr (Or.inr (Or.inl ⟨rfl, hk, hm.1, hp.1, hp.2, h2, h3, hf⟩)))⟩
    · rw [if_neg hf] at h; cases h
  · rcases List.mem_append.mp h with h | h
    · unfold sp_p7 at h
      by_cases hf : ro_plain w a k = true
      · rw [if_pos hf, List.mem_singleton] at h
        subst h
        refine ⟨rfl, Or.inr (Or.inr (Or.inr (Or.inr (Or.inl ⟨rfl, hk, ?_⟩))))⟩
        rcases Nat.lt_or_ge b (a + 1) with z | z
        · have : tb_w T 0 (k + 1) (a + 1) b = 0 := if_pos (by omega)
          dsimp only at hq
          omega
        · exact z
      · rw [if_neg hf] at h; cases h
    · rcases List.mem_append.mp h with h | h
      · unfold sp_p8 at h
        by_cases hf : a < b - 1 ∧ ro_plain w (b - 1) (k + 1) = true ∧ 0 ≤ ro_next w (b - 1) ∧ ro_next w (b - 1) ≤ k
        · rw [if_pos hf, List.mem_singleton] at h
          subst h
          exact ⟨rfl, Or.inr (Or.inr (Or.inr (Or.inr (Or.inr (Or.inl ⟨Or.inl rfl, hk, hf.1, rfl⟩)))))⟩
        · rw [if_neg hf] at h; cases h
      · rcases List.mem_append.mp h with h | h
        · unfold sp_p9 at h
          by_cases hf : a < b - 1 ∧ ro_plain w (b - 1) k = true ∧ ro_next w (b - 1) ≠ k
          · rw [if_pos hf, List.mem_singleton] at h
            subst h
            exact ⟨rfl, Or.inr (Or.inr (Or.inr (Or.inr (Or.inr (Or.inl ⟨Or.inr rfl, hk, hf.1, rfl⟩)))))⟩
          · rw [if_neg hf] at h; cases h
        · rcases List.mem_append.mp h with h | h
          · rw [List.mem_map] at h
            obtain ⟨m, hm, rfl⟩ := h
            rw [sp_rg_mem] at hm
            obtain ⟨h1, h2⟩ := pos2 _ _ hq
            exact ⟨rfl, Or.inr (Or.inr (Or.inr (Or.inr (Or.inr (Or.inr (Or.inl ⟨rfl, hk, hm.1, hm.2, h2, h1⟩))))))⟩
          · rw [List.mem_map] at h
            obtain ⟨m, hm, rfl⟩ := h
            rw [sp_rg_mem] at hm
            obtain ⟨h1, h2⟩ := pos2 _ _ hq
            exact ⟨rfl, Or.inr (Or.inr (Or.inr (Or.inr (Or.inr (Or.inr (Or.inr ⟨rfl, hk, hm.1, hm.2, h2, h1⟩))))))⟩
theorem un_inv {w : ro_w} {sg : Nat} {T : Nat → Nat} {k a b : Nat} {e : sc_O} {q : Nat} (hab : a < b) (h : e ∈ sp_unit w sg T k a b) (hq : q < e.2.2.2.2) : un_v T k a (if e.2.2.2.1 = true then b - 1 else b) e.1 e.2.1 e.2.2.1 := by
  have pos2 : ∀ x y : Nat, q < x * y → 0 < x ∧ 0 < y := fun x y h => ⟨Nat.pos_of_ne_zero (fun z => by rw [z, Nat.zero_mul] at h; omega), Nat.pos_of_ne_zero (fun z => by rw [z, Nat.mul_zero] at h; omega)⟩
  unfold sp_unit at h
  rcases List.mem_append.mp h with h | h
  · unfold sp_u1 at h
    by_cases hf : b = a + 1
    · rw [if_pos hf] at h
      rcases List.mem_cons.mp h with h | h
      · subst h; exact Or.inl ⟨Nat.le_of_ble_eq_true rfl, Nat.le_of_ble_eq_true rfl⟩
      · rw [List.mem_singleton] at h; subst h; exact Or.inl ⟨Nat.le_of_ble_eq_true rfl, Nat.le_of_ble_eq_true rfl⟩
    · rw [if_neg hf] at h; cases h
  · by_cases hp : sp_perf sg k = false
    · rw [if_pos hp] at h
      by_cases hk : k < 6
      · rw [if_pos hk] at h
        rcases List.mem_append.mp h with h | h
        · rw [List.mem_map] at h
          obtain ⟨m, hm, rfl⟩ := h
          rw [sp_rg_mem] at hm
          obtain ⟨h1, h2⟩ := pos2 _ _ hq
          rw [show (if (sp_4 T k a b m).2.2.2.1 = true then b - 1 else b) = b from if_neg (fun z => Bool.noConfusion z)]
          exact Or.inr (Or.inl ⟨rfl, hk, hm.1, hm.2, h2, h1⟩)
        · rw [List.mem_singleton] at h; subst h; exact Or.inr (Or.inr (Or.inl ⟨rfl, hk⟩))
      · rw [if_neg hk] at h; cases h
    · rw [if_neg hp] at h
      have hk : k < 4 := by unfold sp_perf at hp; simp at hp; exact hp.1
      rcases List.mem_append.mp h with h | h
      · unfold sp_u3 at h
        by_cases hf : b = a + 2
        · rw [if_pos hf] at h
          rcases List.mem_cons.mp h with h | h
          · subst h; exact Or.inl ⟨Nat.le_of_ble_eq_true rfl, Nat.le_of_ble_eq_true rfl⟩
          · rcases List.mem_cons.mp h with h | h
            · subst h; exact Or.inl ⟨Nat.le_of_ble_eq_true rfl, Nat.le_of_ble_eq_true rfl⟩
            · rw [List.mem_singleton] at h; subst h; exact Or.inl ⟨Nat.le_of_ble_eq_true rfl, Nat.le_of_ble_eq_true rfl⟩
        · rw [if_neg hf] at h; cases h
      · rcases List.mem_append.mp h with h | h
        · obtain ⟨h1, h2⟩ := per_inv hk h hq
          rw [h1, if_neg (by decide)]
          exact h2
        · by_cases hd : ro_dot w (b - 1) = true
          · rw [if_pos hd] at h
            obtain ⟨h1, h2⟩ := per_inv hk h hq
            rw [h1, if_pos rfl]
            exact h2
          · rw [if_neg hd] at h; cases h
