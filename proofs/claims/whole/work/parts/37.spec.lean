/-! tasks: which are lawful, how much they weigh; a step keeps the law and weighs less -/
/-- what a picked offer of a unit is, with its rank -/
def un_q (T : Nat → Nat) (k a to : Nat) (f c c2 q : Nat) : Prop :=
  (1 ≤ f ∧ f ≤ 3 ∧ a < to) ∨ (f = 4 ∧ a < c ∧ c < to ∧ q < tb_w T 0 (k + 1) a c * tb_w T 0 (k + 1) c to) ∨ (f = 5 ∧ q < tb_w T 1 (k + 1) a to) ∨ (f = 6 ∧ a < c ∧ c < c2 ∧ c2 < to ∧ q < min (tb_w T 0 (k + 1) a c * tb_w T 0 (k + 1) c c2) 3000 * tb_w T 0 (k + 1) c2 to) ∨ (f = 7 ∧ q < tb_w T 0 (k + 1) (a + 1) to) ∨ ((f = 8 ∨ f = 9) ∧ a < c ∧ c = to - 1 ∧ q < tb_w T 0 (k + 1) a c) ∨ (f = 10 ∧ a < c ∧ c < to ∧ q < tb_w T 0 (k + 1) a c * tb_w T 1 (k + 1) c to) ∨ (f = 11 ∧ a < c ∧ c < to ∧ q < tb_w T 1 (k + 1) a c * tb_w T 0 (k + 1) c to)
theorem per_iq {w : ro_w} {T : Nat → Nat} {k a b : Nat} {dot : Bool} {e : sc_O} {q : Nat} (h : e ∈ sp_per w T k a b dot) (hq : q < e.2.2.2.2) : e.2.2.2.1 = dot ∧ un_q T k a b e.1 e.2.1 e.2.2.1 q := by
  unfold sp_per at h
  rcases List.mem_append.mp h with h | h
  · unfold sp_p6 at h
    rw [List.mem_flatMap] at h
    obtain ⟨m, hm, h⟩ := h
    by_cases hf : 0 < tb_w T 0 (k + 1) a m
    · rw [if_pos hf, List.mem_map] at h
      obtain ⟨p, hp, rfl⟩ := h
      rw [sp_rg_mem] at hm hp
      exact ⟨rfl, Or.inr (Or.inr (Or.inr (Or.inl ⟨rfl, hm.1, hp.1, hp.2, hq⟩)))⟩
    · rw [if_neg hf] at h; cases h
  · rcases List.mem_append.mp h with h | h
    · unfold sp_p7 at h
      by_cases hf : ro_plain w a k = true
      · rw [if_pos hf, List.mem_singleton] at h
        subst h
        exact ⟨rfl, Or.inr (Or.inr (Or.inr (Or.inr (Or.inl ⟨rfl, hq⟩))))⟩
      · rw [if_neg hf] at h; cases h
    · rcases List.mem_append.mp h with h | h
      · unfold sp_p8 at h
        by_cases hf : a < b - 1 ∧ ro_plain w (b - 1) (k + 1) = true ∧ 0 ≤ ro_next w (b - 1) ∧ ro_next w (b - 1) ≤ k
        · rw [if_pos hf, List.mem_singleton] at h
          subst h
          exact ⟨rfl, Or.inr (Or.inr (Or.inr (Or.inr (Or.inr (Or.inl ⟨Or.inl rfl, hf.1, rfl, hq⟩)))))⟩
        · rw [if_neg hf] at h; cases h
      · rcases List.mem_append.mp h with h | h
        · unfold sp_p9 at h
          by_cases hf : a < b - 1 ∧ ro_plain w (b - 1) k = true ∧ ro_next w (b - 1) ≠ k
          · rw [if_pos hf, List.mem_singleton] at h
            subst h
            exact ⟨rfl, Or.inr (Or.inr (Or.inr (Or.inr (Or.inr (Or.inl ⟨Or.inr rfl, hf.1, rfl, hq⟩)))))⟩
          · rw [if_neg hf] at h; cases h
        · rcases List.mem_append.mp h with h | h
          · rw [List.mem_map] at h
            obtain ⟨m, hm, rfl⟩ := h
            rw [sp_rg_mem] at hm
            exact ⟨rfl, Or.inr (Or.inr (Or.inr (Or.inr (Or.inr (Or.inr (Or.inl ⟨rfl, hm.1, hm.2, hq⟩))))))⟩
          · rw [List.mem_map] at h
            obtain ⟨m, hm, rfl⟩ := h
            rw [sp_rg_mem] at hm
            exact ⟨rfl, Or.inr (Or.inr (Or.inr (Or.inr (Or.inr (Or.inr (Or.inr ⟨rfl, hm.1, hm.2, hq⟩))))))⟩
theorem un_iq {w : ro_w} {sg : Nat} {T : Nat → Nat} {k a b : Nat} {e : sc_O} {q : Nat} (h : e ∈ sp_unit w sg T k a b) (hq : q < e.2.2.2.2) : un_q T k a (if e.2.2.2.1 = true then b - 1 else b) e.1 e.2.1 e.2.2.1 q := by
  unfold sp_unit at h
  rcases List.mem_append.mp h with h | h
  · unfold sp_u1 at h
    by_cases hf : b = a + 1
    · rw [if_pos hf] at h
      rcases List.mem_cons.mp h with h | h
      · subst h; exact Or.inl ⟨Nat.le_of_ble_eq_true rfl, Nat.le_of_ble_eq_true rfl, by rw [if_neg (fun z => Bool.noConfusion z)]; omega⟩
      · rw [List.mem_singleton] at h; subst h; exact Or.inl ⟨Nat.le_of_ble_eq_true rfl, Nat.le_of_ble_eq_true rfl, by rw [if_neg (fun z => Bool.noConfusion z)]; omega⟩
    · rw [if_neg hf] at h; cases h
  · by_cases hp : sp_perf sg k = false
    · rw [if_pos hp] at h
      by_cases hk : k < 6
      · rw [if_pos hk] at h
        rcases List.mem_append.mp h with h | h
        · rw [List.mem_map] at h
          obtain ⟨m, hm, rfl⟩ := h
          rw [sp_rg_mem] at hm
          rw [show (if (sp_4 T k a b m).2.2.2.1 = true then b - 1 else b) = b from if_neg (fun z => Bool.noConfusion z)]
          exact Or.inr (Or.inl ⟨rfl, hm.1, hm.2, hq⟩)
        · rw [List.mem_singleton] at h
          subst h
          rw [show (if ((5, 0, 0, false, tb_w T 1 (k + 1) a b) : sc_O).2.2.2.1 = true then b - 1 else b) = b from if_neg (fun z => Bool.noConfusion z)]
          exact Or.inr (Or.inr (Or.inl ⟨rfl, hq⟩))
      · rw [if_neg hk] at h; cases h
    · rw [if_neg hp] at h
      rcases List.mem_append.mp h with h | h
      · unfold sp_u3 at h
        by_cases hf : b = a + 2
        · rw [if_pos hf] at h
          rcases List.mem_cons.mp h with h | h
          · subst h; exact Or.inl ⟨Nat.le_of_ble_eq_true rfl, Nat.le_of_ble_eq_true rfl, by rw [if_neg (fun z => Bool.noConfusion z)]; omega⟩
          · rcases List.mem_cons.mp h with h | h
            · subst h; exact Or.inl ⟨Nat.le_of_ble_eq_true rfl, Nat.le_of_ble_eq_true rfl, by rw [if_pos rfl]; omega⟩
            · rw [List.mem_singleton] at h; subst h; exact Or.inl ⟨Nat.le_of_ble_eq_true rfl, Nat.le_of_ble_eq_true rfl, by rw [if_pos rfl]; omega⟩
        · rw [if_neg hf] at h; cases h
      · rcases List.mem_append.mp h with h | h
        · obtain ⟨h1, h2⟩ := per_iq h hq
          rw [h1, if_neg (by decide)]
          exact h2
        · by_cases hd : ro_dot w (b - 1) = true
          · rw [if_pos hd] at h
            obtain ⟨h1, h2⟩ := per_iq h hq
            rw [h1, if_pos rfl]
            exact h2
          · rw [if_neg hd] at h; cases h
def tw_ (n : Nat) (t : tk_T) : Nat := if t.1 = 3 then 3 * (n - t.2.2.1) + 1 else if t.1 = 0 then 3 * (t.2.2.2.1 - t.2.2.1) - 1 else if t.1 = 1 then 3 * (t.2.2.2.1 - t.2.2.1) - 2 else 1
def tws_ (n : Nat) (l : List tk_T) : Nat := (l.map (tw_ n)).sum
theorem tws_cons {n : Nat} {t : tk_T} {l : List tk_T} : tws_ n (t :: l) = tw_ n t + tws_ n l := by unfold tws_; rw [List.map_cons, List.sum_cons]
theorem tws_app {n : Nat} {l m : List tk_T} : tws_ n (l ++ m) = tws_ n l + tws_ n m := by unfold tws_; rw [List.map_append, List.sum_append]
theorem tws_nil {n : Nat} : tws_ n [] = 0 := rfl
def tv_ (w : ro_w) (sg g : Nat) (T I : Nat → Nat) (t : tk_T) : Prop :=
  (t.1 = 3 ∧ t.2.2.1 ≤ w.1 ∧ t.2.2.2.2 < 3000 ∧ (t.2.2.1 < w.1 → t.2.2.2.2 < iw_s w g T I t.2.2.1 (w.1 - t.2.2.1) (t.2.2.1 + 1))) ∨
  (t.1 = 0 ∧ t.2.1 < 7 ∧ t.2.2.1 < t.2.2.2.1 ∧ t.2.2.2.1 ≤ w.1 ∧ t.2.2.2.2 < 3000 ∧ t.2.2.2.2 < sm_o (sp_unit w sg T t.2.1 t.2.2.1 t.2.2.2.1)) ∨
  (t.1 = 1 ∧ t.2.1 < 7 ∧ t.2.2.1 < t.2.2.2.1 ∧ t.2.2.2.1 ≤ w.1 ∧ t.2.2.2.2 < 3000 ∧ t.2.2.2.2 < sm_o (sp_pair w sg T t.2.1 t.2.2.1 t.2.2.2.1)) ∨
  (t.1 = 2 ∧ t.2.1 < 7 ∧ (t.2.2.2.1 = t.2.2.1 + 1 ∨ t.2.2.2.1 = t.2.2.1 + 2) ∧ t.2.2.2.1 ≤ w.1) ∨ (t.1 = 4 ∧ t.2.1 = 12)
def tc_ (w : ro_w) (sg g : Nat) (T I : Nat → Nat) : Prop := tb_ok w sg T 0 ∧ tb_dg T ∧ iw_ok w g T I 0 ∧ w.1 ≤ 24 ∧ g ≤ 4 ∧ ∀ j : Nat, j < 25 → I j ≤ 3000
section TCH
variable {w : ro_w} {sg g : Nat} {T I : Nat → Nat}
theorem tb_pos (hc : tc_ w sg g T I) {what k a b : Nat} (hw : what < 2) (h : 0 < tb_w T what k a b) : k < 7 ∧ a < b ∧ b ≤ 24 ∧ tb_w T what k a b = T (tb_ix what k a b) := by
  have h1 : ¬ (6 < k ∨ b < a ∨ 24 < b) := fun z => by rw [show tb_w T what k a b = 0 from if_pos z] at h; omega
  have h2 : tb_w T what k a b = T (tb_ix what k a b) := if_neg h1
  refine ⟨by omega, ?_, by omega, h2⟩
  rcases Nat.lt_or_ge a b with z | z
  · exact z
  · have e : a = b := by omega
    subst e
    rw [h2, hc.2.1 what k a hw (by omega) (by omega)] at h
    omega
theorem ch_u (hc : tc_ w sg g T I) {k a b q : Nat} (h : q < tb_w T 0 k a b) (hb : b ≤ w.1) : tv_ w sg g T I (0, k, a, b, q) ∧ a < b := by
  obtain ⟨h1, h2, h3, h4⟩ := tb_pos hc (by decide) (show 0 < tb_w T 0 k a b by omega)
  have h5 := (hc.1 k a b (Nat.zero_le _) h1 h2 hb).1
  rw [h4, h5] at h
  exact ⟨Or.inr (Or.inl ⟨rfl, h1, h2, hb, by show q < 3000; omega, by show q < sm_o (sp_unit w sg T k a b); omega⟩), h2⟩
theorem ch_p (hc : tc_ w sg g T I) {k a b q : Nat} (h : q < tb_w T 1 k a b) (hb : b ≤ w.1) : tv_ w sg g T I (1, k, a, b, q) ∧ a < b := by
  obtain ⟨h1, h2, h3, h4⟩ := tb_pos hc (by decide) (show 0 < tb_w T 1 k a b by omega)
  have h5 := (hc.1 k a b (Nat.zero_le _) h1 h2 hb).2
  rw [h4, h5] at h
  exact ⟨Or.inr (Or.inr (Or.inl ⟨rfl, h1, h2, hb, by show q < 3000; omega, by show q < sm_o (sp_pair w sg T k a b); omega⟩)), h2⟩
theorem dv_lt {q x y : Nat} (h : q < x * y) : q / y < x ∧ q % y < y := by
  have hy : 0 < y := Nat.pos_of_ne_zero (fun z => by rw [z, Nat.mul_zero] at h; omega)
  exact ⟨Nat.div_lt_of_lt_mul (by rw [Nat.mul_comm]; exact h), Nat.mod_lt _ hy⟩
end TCH
