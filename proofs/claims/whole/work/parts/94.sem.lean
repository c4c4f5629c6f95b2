/-! one kind at one place, all of it -/
section IVK
variable {w : ro_w} {sg g : Nat} {E U P H : Nat → Nat} {k p D sz : Nat} {PL RS CO AL LI : Nat → Nat}
theorem LU_i_P {v : Nat} (hp : p < 27) : LU_i U (rm_up P (k * 27 + p) v) PL RS k p sz = LU_i U P PL RS k p sz := by
  unfold LU_i
  rw [rm_up_n (by omega)]
theorem LU_p_P {v : Nat} (hp : p < 27) : LU_p D U (rm_up P (k * 27 + p) v) PL RS AL LI k p sz = LU_p D U P PL RS AL LI k p sz := by
  unfold LU_p
  rw [rm_up_n (by omega), aft_cong sz (fun q _ => rm_up_n (by omega))]
def H1x (H CO : Nat → Nat) (k p : Nat) : Nat → Nat := kps H (k * 27 + p) [M16 CO k p, M17 CO k p]
def P1x (P H CO : Nat → Nat) (k p sz : Nat) : Nat → Nat := kps P (k * 27 + p) [M15 (H1x H CO k p) k p sz]
def ZE (E H CO : Nat → Nat) (k p sz : Nat) (L : List (Nat × Nat)) : Nat → Nat := ups E (((16, M16 CO k p) :: (17, M17 CO k p) :: (15, M15 (H1x H CO k p) k p sz) :: L).map (fun x => (eix k x.1 p, x.2)))
theorem iv_g (hi : ivC w sg g E U P H (cdn p (k + 1))) (h : pre_ w sg g E U P H k p D sz PL RS CO AL LI) (hf : sp_perf sg k = false) (hg : k < g) :
    ivC w sg g (ZE E H CO k p sz (LU_g D PL RS k p)) (kps U (k * 27 + p) ((LU_g D PL RS k p).map (fun x => x.2))) (P1x P H CO k p sz) (H1x H CO k p) (cdn p k) := by
  refine iv_down hi (asm_sm ?_ (by have := h.hp; have := h.h24; omega) h.hk) (eok_g h hf hg)
  intro x hx
  simp only [LU_g, List.mem_cons, List.not_mem_nil, or_false] at hx
  rcases hx with rfl | rfl | rfl | rfl | rfl | rfl <;> exact Nat.le_of_ble_eq_true rfl
theorem iv_i (hi : ivC w sg g E U P H (cdn p (k + 1))) (h : pre_ w sg g E U P H k p D sz PL RS CO AL LI) (hf : sp_perf sg k = false) (hg : g ≤ k) (hz : ∀ j, 189 ≤ j → U j = 0 ∧ P j = 0) :
    ivC w sg g (ZE E H CO k p sz (LU_i U (P1x P H CO k p sz) PL RS k p sz ++ LP_i D U PL k p)) (kps U (k * 27 + p) ((LU_i U (P1x P H CO k p sz) PL RS k p sz).map (fun x => x.2))) (kps (P1x P H CO k p sz) (k * 27 + p) ((LP_i D U PL k p).map (fun x => x.2))) (H1x H CO k p) (cdn p k) := by
  have h27 : p < 27 := by have := h.hp; have := h.h24; omega
  rw [show P1x P H CO k p sz = rm_up P (k * 27 + p) (P (k * 27 + p) ||| M15 (H1x H CO k p) k p sz) from rfl, LU_i_P h27]
  refine iv_down hi (asm_sm (lp := M15 (H1x H CO k p) k p sz :: (LP_i D U PL k p).map (fun x => x.2)) ?_ h27 h.hk) (eok_i h hf hg (nxU_of hi hz hg h.hk) (fun e q => hz _ (by omega)))
  intro x hx
  simp only [LU_i, LP_i, List.cons_append, List.nil_append, List.mem_cons, List.not_mem_nil, or_false] at hx
  rcases hx with rfl | rfl | rfl | rfl | rfl | rfl | rfl | rfl | rfl <;> exact Nat.le_of_ble_eq_true rfl
theorem iv_p (hi : ivC w sg g E U P H (cdn p (k + 1))) (h : pre_ w sg g E U P H k p D sz PL RS CO AL LI) (hf : sp_perf sg k = true) (hg : g ≤ k) (hz : ∀ j, 189 ≤ j → U j = 0 ∧ P j = 0) :
    ivC w sg g (ZE E H CO k p sz (LU_p D U (P1x P H CO k p sz) PL RS AL LI k p sz)) (kps U (k * 27 + p) ((LU_p D U (P1x P H CO k p sz) PL RS AL LI k p sz).map (fun x => x.2))) (P1x P H CO k p sz) (H1x H CO k p) (cdn p k) := by
  have h27 : p < 27 := by have := h.hp; have := h.h24; omega
  rw [show P1x P H CO k p sz = rm_up P (k * 27 + p) (P (k * 27 + p) ||| M15 (H1x H CO k p) k p sz) from rfl, LU_p_P h27]
  refine iv_down hi (asm_sm (lp := [M15 (H1x H CO k p) k p sz]) ?_ h27 h.hk) (eok_p h hf hg (nxU_of hi hz hg h.hk))
  intro x hx
  simp only [LU_p, List.mem_cons, List.not_mem_nil, or_false] at hx
  rcases hx with rfl | rfl | rfl | rfl | rfl | rfl | rfl | rfl | rfl | rfl | rfl | rfl <;> exact Nat.le_of_ble_eq_true rfl
end IVK
section SPZ
variable {X X' : Nat → Nat → Int32} {sz D : Nat} {E U P H PL RS CO AL LI : Nat → Nat}
theorem sp_x (h : sp_at X sz D E U P H PL RS CO AL LI) (e : ∀ b i, (b = 10 ∧ (i = 9 ∨ i = 10)) ∨ (11 ≤ b ∧ b ≤ 19) → X' b i = X b i) : sp_at X' sz D E U P H PL RS CO AL LI := by
  obtain ⟨⟨⟨a1, a2⟩, a3, a4⟩, ⟨b1, b2, b3, b4⟩, ⟨c1, c2, c3, c4, c5⟩, d, z⟩ := h
  have t : ∀ {b n : Nat} {T : Nat → Nat}, 11 ≤ b → b ≤ 19 → tm_ X b n T → tm_ X' b n T := fun h1 h2 ht j hj => by rw [e _ j (Or.inr ⟨h1, h2⟩)]; exact ht j hj
  exact ⟨⟨⟨(e _ _ (Or.inl ⟨rfl, Or.inr rfl⟩)).trans a1, a2⟩, (e _ _ (Or.inl ⟨rfl, Or.inl rfl⟩)).trans a3, a4⟩, ⟨t (by decide) (by decide) b1, t (by decide) (by decide) b2, t (by decide) (by decide) b3, t (by decide) (by decide) b4⟩, ⟨t (by decide) (by decide) c1, t (by decide) (by decide) c2, t (by decide) (by decide) c3, t (by decide) (by decide) c4, t (by decide) (by decide) c5⟩, d, z⟩
theorem sp_UP (h : sp_at X sz D E U P H PL RS CO AL LI) : ∀ j, U j < 2 ^ 27 ∧ P j < 2 ^ 27 := fun j => by
  by_cases hj : j < 189
  · exact ⟨(h.2.1.2.1 j hj).2, (h.2.1.2.2.1 j hj).2⟩
  · have := h.2.2.2.2 j (by omega)
    rw [this.1, this.2.1]
    exact ⟨by decide, by decide⟩
end SPZ
/-- Spans, filled -/
def spf_ (X : Nat → Nat → Int32) (w : ro_w) (sg g D : Nat) (E U P H PL RS CO AL LI : Nat → Nat) : Prop := sp_at X w.1 D E U P H PL RS CO AL LI ∧ sm_ok w D PL RS CO AL LI ∧ ivC w sg g E U P H (cdn 0 0) ∧ X 10 11 = nI (tE_ (fun z => ie_ U P z (g + 1)) w.1 w.1) ∧ X 10 12 = nI (rh_ (fun z => ie_ U P z (g + 1)) w.1)
theorem iv_all0 {w : ro_w} {sg g : Nat} (h0 : w.1 = 0) : ivC w sg g (fun _ => 0) (fun _ => 0) (fun _ => 0) (fun _ => 0) (cdn 0 0) := fun k p _ _ => ⟨fun _ => eok_out (by omega) ⟨fun _ _ => rfl, rfl, rfl, rfl⟩, fun z => absurd (show cdn 0 0 k p by unfold cdn; omega) z⟩
