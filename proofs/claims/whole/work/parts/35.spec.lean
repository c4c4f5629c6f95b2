/-! items taken out -/
def gk_ (w : ro_w) (a b : Nat) : Nat → Nat → Nat → Nat × Nat
  | 0, k, l => (k, l)
  | f + 1, k, l => if ct_gr w k a b ≤ l then gk_ w a b f (k + 1) (l - ct_gr w k a b) else (k, l)
def op_i (w : ro_w) (sg g : Nat) (T : Nat → Nat) (a b rank : Nat) (P : tk_P) : tk_P :=
  if rank < tb_w T 0 g a b then op_p (0, g, a, b, rank) P
  else if rank - tb_w T 0 g a b < tb_w T 1 g a b then op_p (1, g, a, b, rank - tb_w T 0 g a b) P
  else op_g w sg (gk_ w a b g 0 (rank - tb_w T 0 g a b - tb_w T 1 g a b)).1 a b (gk_ w a b g 0 (rank - tb_w T 0 g a b - tb_w T 1 g a b)).2 P
def ik_ (w : ro_w) (g : Nat) (T I : Nat → Nat) (a : Nat) : Nat → Nat → Nat → Nat × Nat
  | 0, b, l => (b, l)
  | f + 1, b, l => if ct_it w g T a b * I b ≤ l then ik_ w g T I a f (b + 1) (l - ct_it w g T a b * I b) else (b, l)
def op_is (w : ro_w) (sg g : Nat) (T I : Nat → Nat) (a rank : Nat) (P : tk_P) : tk_P :=
  if a = w.1 then P else op_i w sg g T a (ik_ w g T I a (w.1 - a) (a + 1) rank).1 ((ik_ w g T I a (w.1 - a) (a + 1) rank).2 / I (ik_ w g T I a (w.1 - a) (a + 1) rank).1) (op_p (3, 0, (ik_ w g T I a (w.1 - a) (a + 1) rank).1, 0, (ik_ w g T I a (w.1 - a) (a + 1) rank).2 % I (ik_ w g T I a (w.1 - a) (a + 1) rank).1) P)
theorem pk_some : ∀ (l : List sc_O) (r : Nat), r < sm_o l → ∃ e q, pk_ l r = some (e, q)
  | [], r, h => by rw [sm_nil] at h; omega
  | e :: l, r, h => by
    unfold pk_
    by_cases h1 : r < e.2.2.2.2
    · exact ⟨e, r, by rw [if_pos h1]⟩
    · rw [if_neg h1]
      rw [sm_cons] at h
      exact pk_some l _ (by omega)
/-- the kind of a greater item that is found: what is left is below its count -/
theorem gk_b {w : ro_w} {a b : Nat} : ∀ (f k l : Nat), l < ct_gs w a b f k → (gk_ w a b f k l).1 < k + f ∧ k ≤ (gk_ w a b f k l).1 ∧ (gk_ w a b f k l).2 < ct_gr w (gk_ w a b f k l).1 a b ∧ (gk_ w a b f k l).2 ≤ l
  | 0, k, l, h => by unfold ct_gs at h; omega
  | f + 1, k, l, h => by
    unfold gk_
    by_cases h1 : ct_gr w k a b ≤ l
    · rw [if_pos h1]
      have h2 : l < ct_gr w k a b + ct_gs w a b f (k + 1) := h
      obtain ⟨a1, a2, a3, a4⟩ := gk_b (w := w) (a := a) (b := b) f (k + 1) (l - ct_gr w k a b) (by omega)
      exact ⟨by omega, by omega, a3, by omega⟩
    · rw [if_neg h1]
      exact ⟨by show k < k + (f + 1); omega, Nat.le_refl _, Nat.not_le.mp h1, Nat.le_refl _⟩
theorem ik_b {w : ro_w} {g : Nat} {T I : Nat → Nat} {a : Nat} : ∀ (f b l : Nat), l < iw_s w g T I a f b → (ik_ w g T I a f b l).1 < b + f ∧ b ≤ (ik_ w g T I a f b l).1 ∧ (ik_ w g T I a f b l).2 < ct_it w g T a (ik_ w g T I a f b l).1 * I (ik_ w g T I a f b l).1 ∧ (ik_ w g T I a f b l).2 ≤ l
  | 0, b, l, h => by unfold iw_s at h; omega
  | f + 1, b, l, h => by
    unfold ik_
    by_cases h1 : ct_it w g T a b * I b ≤ l
    · rw [if_pos h1]
      have h2 : l < ct_it w g T a b * I b + iw_s w g T I a f (b + 1) := h
      obtain ⟨a1, a2, a3, a4⟩ := ik_b (w := w) (g := g) (T := T) (I := I) (a := a) f (b + 1) (l - ct_it w g T a b * I b) (by omega)
      exact ⟨by omega, by omega, a3, by omega⟩
    · rw [if_neg h1]
      exact ⟨by show b < b + (f + 1); omega, Nat.le_refl _, Nat.not_le.mp h1, Nat.le_refl _⟩
theorem gr_pick {w : ro_w} {k a b l : Nat} (h : l < ct_gr w k a b) : ¬ b = a + 1 → ¬ (b = a + 2 ∧ ro_plain w a k = true) → ∃ e q, pk_ (sp_thirds w k a b) l = some (e, q) := by
  intro h1 h2
  apply pk_some
  unfold ct_gr at h
  rw [if_neg h1, if_neg (by rintro ⟨z1, z2, -⟩; exact h2 ⟨z1, z2⟩)] at h
  exact h
