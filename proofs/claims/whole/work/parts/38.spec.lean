/-! a step of the tasks -/
def tk_s (w : ro_w) (sg g : Nat) (T I : Nat → Nat) (t : tk_T) (P : tk_P) : tk_P :=
  if t.1 = 3 then op_is w sg g T I t.2.2.1 t.2.2.2.2 P
  else if t.1 = 0 then (match pk_ (sp_unit w sg T t.2.1 t.2.2.1 t.2.2.2.1) t.2.2.2.2 with
    | some x => op_u sg T t.2.1 t.2.2.1 t.2.2.2.1 x.1 x.2 P
    | none => P)
  else if t.1 = 1 then (match pk_ (sp_pair w sg T t.2.1 t.2.2.1 t.2.2.2.1) t.2.2.2.2 with
    | some x => op_pr sg t.2.1 t.2.2.1 t.2.2.2.1 x.1 x.2 P
    | none => P)
  else if t.1 = 2 then op_d sg t.2.1 t.2.2.1 t.2.2.2.1 P
  else op_t t.2.1 P
/-- what a step leaves: new tasks that are lawful; m: what all of it may weigh -/
def st_k (w : ro_w) (sg g : Nat) (T I : Nat → Nat) (m : Nat) (P P' : tk_P) : Prop := ∃ ns : List tk_T, P'.1 = ns ++ P.1 ∧ (∀ x ∈ ns, tv_ w sg g T I x) ∧ P'.2.1.length + tws_ w.1 ns ≤ P.2.1.length + m ∧ tws_ w.1 ns + 1 ≤ m
theorem fa0 {p : tk_T → Prop} : ∀ x ∈ ([] : List tk_T), p x := fun x h => by cases h
theorem fa1 {p : tk_T → Prop} {a : tk_T} {l : List tk_T} (h1 : p a) (h2 : ∀ x ∈ l, p x) : ∀ x ∈ a :: l, p x := fun x h => by
  rcases List.mem_cons.mp h with e | e
  · rw [e]; exact h1
  · exact h2 x e
theorem tw_0 {n k a b q : Nat} : tw_ n (0, k, a, b, q) = 3 * (b - a) - 1 := rfl
theorem tw_1 {n k a b q : Nat} : tw_ n (1, k, a, b, q) = 3 * (b - a) - 2 := rfl
theorem tw_2 {n k a b q : Nat} : tw_ n (2, k, a, b, q) = 1 := rfl
theorem tw_3 {n k a b q : Nat} : tw_ n (3, k, a, b, q) = 3 * (n - a) + 1 := rfl
theorem tw_4 {n k a b q : Nat} : tw_ n (4, k, a, b, q) = 1 := rfl
section STK
variable {w : ro_w} {sg g : Nat} {T I : Nat → Nat}
theorem third_p {k a b : Nat} (h : 0 < ro_third w k a b) : b = a + 1 ∨ b = a + 2 := by
  unfold ro_third at h
  by_cases h1 : b = a + 1
  · exact Or.inl h1
  · rw [if_neg h1] at h
    by_cases h2 : b = a + 2 ∧ k < 6
    · exact Or.inr h2.1
    · rw [if_neg h2] at h; omega
theorem th_ok {k a b m q : Nat} {e : sc_O} {P : tk_P} (hk : k < 7) (hb : b ≤ w.1) (hm : 4 ≤ m) (he : e ∈ sp_thirds w k a b) (hq : q < e.2.2.2.2) : st_k w sg g T I m P (op_3 k a b e.2.1 e.2.2.1 P) ∧ a + 3 ≤ b := by
  obtain ⟨c, c2, h1, h2, h3, rfl⟩ := th_inv he
  have h4 : q < ro_third w k a c * ro_third w k c c2 * ro_third w k c2 b := hq
  have p1 : 0 < ro_third w k c2 b := Nat.pos_of_ne_zero (fun z => by rw [z, Nat.mul_zero] at h4; omega)
  have p2 : 0 < ro_third w k c c2 := Nat.pos_of_ne_zero (fun z => by rw [z, Nat.mul_zero, Nat.zero_mul] at h4; omega)
  have p3 : 0 < ro_third w k a c := Nat.pos_of_ne_zero (fun z => by rw [z, Nat.zero_mul, Nat.zero_mul] at h4; omega)
  refine ⟨⟨[(2, k, a, c, 0), (2, k, c, c2, 0), (2, k, c2, b, 0)], rfl, ?_, ?_, ?_⟩, by omega⟩
  · exact fa1 (Or.inr (Or.inr (Or.inr (Or.inl ⟨rfl, hk, third_p p3, by show c ≤ w.1; omega⟩)))) (fa1 (Or.inr (Or.inr (Or.inr (Or.inl ⟨rfl, hk, third_p p2, by show c2 ≤ w.1; omega⟩)))) (fa1 (Or.inr (Or.inr (Or.inr (Or.inl ⟨rfl, hk, third_p p1, hb⟩)))) fa0))
  · show (P.2.1 ++ [15]).length + tws_ w.1 [(2, k, a, c, 0), (2, k, c, c2, 0), (2, k, c2, b, 0)] ≤ P.2.1.length + m
    rw [List.length_append, tws_cons, tws_cons, tws_cons, tws_nil, tw_2, tw_2, tw_2]
    show P.2.1.length + 1 + (1 + (1 + (1 + 0))) ≤ _
    omega
  · rw [tws_cons, tws_cons, tws_cons, tws_nil, tw_2, tw_2, tw_2]
    omega
theorem one_ok {m f : Nat} {P P' : tk_P} (hm : 1 ≤ m) (h1 : P'.1 = P.1) (h2 : P'.2.1 = P.2.1 ++ [f]) : st_k w sg g T I m P P' :=
  ⟨[], h1, fa0, by rw [h2, List.length_append, tws_nil]; show P.2.1.length + 1 + 0 ≤ _; omega, by rw [tws_nil]; omega⟩
theorem g_ok {k a b r m : Nat} {P : tk_P} (hk : k < 7) (hab : a < b) (hb : b ≤ w.1) (hr : r < ct_gr w k a b) (hm : 1 ≤ m) (hm3 : a + 3 ≤ b → 4 ≤ m) : st_k w sg g T I m P (op_g w sg k a b r P) := by
  unfold op_g
  by_cases h1 : b = a + 1
  · rw [if_pos h1]
    exact one_ok hm rfl rfl
  · rw [if_neg h1]
    by_cases h2 : b = a + 2 ∧ ro_plain w a k = true
    · rw [if_pos h2]
      exact one_ok hm rfl rfl
    · rw [if_neg h2]
      obtain ⟨e, q, hp⟩ := gr_pick hr h1 h2
      obtain ⟨h3, h4, -⟩ := pk_mem _ _ _ _ hp
      rw [hp]
      obtain ⟨c, c2, z1, z2, z3, -⟩ := th_inv h3
      exact (th_ok hk hb (hm3 (by omega)) h3 h4).1
theorem i_ok (hc : tc_ w sg g T I) {a b r m : Nat} {P : tk_P} (hab : a < b) (hb : b ≤ w.1) (hr3 : r < 3000) (hr : r < tb_w T 0 g a b + tb_w T 1 g a b + ct_gs w a b g 0) (hm : 3 * (b - a) ≤ m) : st_k w sg g T I m P (op_i w sg g T a b r P) := by
  unfold op_i
  by_cases h1 : r < tb_w T 0 g a b
  · rw [if_pos h1]
    refine ⟨[(0, g, a, b, r)], rfl, fa1 (ch_u hc h1 hb).1 fa0, ?_, ?_⟩
    · show P.2.1.length + _ ≤ _
      rw [tws_cons, tws_nil, tw_0]; omega
    · rw [tws_cons, tws_nil, tw_0]; omega
  · rw [if_neg h1]
    by_cases h2 : r - tb_w T 0 g a b < tb_w T 1 g a b
    · rw [if_pos h2]
      refine ⟨[(1, g, a, b, r - tb_w T 0 g a b)], rfl, fa1 (ch_p hc h2 hb).1 fa0, ?_, ?_⟩
      · show P.2.1.length + _ ≤ _
        rw [tws_cons, tws_nil, tw_1]; omega
      · rw [tws_cons, tws_nil, tw_1]; omega
    · rw [if_neg h2]
      obtain ⟨k1, k2, k3, k4⟩ := gk_b (w := w) (a := a) (b := b) g 0 (r - tb_w T 0 g a b - tb_w T 1 g a b) (by omega)
      have hg := hc.2.2.2.2.1
      exact g_ok (by omega) hab hb k3 (by omega) (by omega)
theorem is_ok (hc : tc_ w sg g T I) {k a b r : Nat} {P : tk_P} (ha : a ≤ w.1) (hr3 : r < 3000) (hr : a < w.1 → r < iw_s w g T I a (w.1 - a) (a + 1)) : st_k w sg g T I (tw_ w.1 (3, k, a, b, r)) P (op_is w sg g T I a r P) := by
  unfold op_is
  rw [tw_3]
  by_cases h1 : a = w.1
  · rw [if_pos h1]
    exact ⟨[], rfl, fa0, by rw [tws_nil]; omega, by rw [tws_nil]; omega⟩
  · rw [if_neg h1]
    obtain ⟨x, ex⟩ : ∃ x, x = ik_ w g T I a (w.1 - a) (a + 1) r := ⟨_, rfl⟩
    obtain ⟨k1, k2, k3, k4⟩ := ik_b (w := w) (g := g) (T := T) (I := I) (a := a) (w.1 - a) (a + 1) r (hr (by omega))
    rw [← ex] at k1 k2 k3 k4 ⊢
    obtain ⟨d1, d2⟩ := dv_lt k3
    have hle : ct_it w g T a x.1 ≤ tb_w T 0 g a x.1 + tb_w T 1 g a x.1 + ct_gs w a x.1 g 0 := Nat.min_le_left _ _
    have hdl := Nat.div_le_self x.2 (I x.1)
    have hml : x.2 % I x.1 ≤ x.2 := Nat.mod_le _ _
    obtain ⟨ns, n1, n2, n3, n4⟩ := i_ok hc (P := op_p (3, 0, x.1, 0, x.2 % I x.1) P) (a := a) (b := x.1) (r := x.2 / I x.1) (m := 3 * (x.1 - a)) (by omega) (by omega) (by omega) (by omega) (Nat.le_refl _)
    have hI : x.1 < w.1 → x.2 % I x.1 < iw_s w g T I x.1 (w.1 - x.1) (x.1 + 1) := by
      intro hx
      have h5 := hc.2.2.1.2 x.1 (Nat.zero_le _) hx
      unfold iw_d at h5
      rw [h5] at d2 ⊢
      omega
    refine ⟨ns ++ [(3, 0, x.1, 0, x.2 % I x.1)], ?_, ?_, ?_, ?_⟩
    · rw [n1, List.append_assoc]; rfl
    · intro y hy
      rcases List.mem_append.mp hy with h | h
      · exact n2 y h
      · rw [List.mem_singleton] at h
        subst h
        exact Or.inl ⟨rfl, by show x.1 ≤ w.1; omega, by show x.2 % I x.1 < 3000; omega, hI⟩
    · rw [tws_app, tws_cons, tws_nil, tw_3]
      have n3' : (op_i w sg g T a x.1 (x.2 / I x.1) (op_p (3, 0, x.1, 0, x.2 % I x.1) P)).2.1.length + tws_ w.1 ns ≤ P.2.1.length + 3 * (x.1 - a) := n3
      omega
    · rw [tws_app, tws_cons, tws_nil, tw_3]
      omega
theorem v_ok (hc : tc_ w sg g T I) {k a to f c c2 q m : Nat} {P : tk_P} (hto : to ≤ w.1) (ha : a < w.1) (hv : un_q T k a to f c c2 q) (hm : 3 * (to - a) - 2 ≤ m) (hm1 : 1 ≤ m) : ∃ ns : List tk_T, (op_v sg T k a to f c c2 q P).1 = ns ++ P.1 ∧ (∀ x ∈ ns, tv_ w sg g T I x) ∧ (op_v sg T k a to f c c2 q P).2.1 = P.2.1 ∧ tws_ w.1 ns ≤ m := by
  rcases hv with ⟨v1, v2, -⟩ | ⟨v1, v2, v3, v4⟩ | ⟨v1, v2⟩ | ⟨v1, v2, v3, v4, v5⟩ | ⟨v1, v2⟩ | ⟨v1, v2, v3, v4⟩ | ⟨v1, v2, v3, v4⟩ | ⟨v1, v2, v3, v4⟩
  · rw [show op_v sg T k a to f c c2 q P = op_l a (fl_ sg k) P from if_pos v2]
    exact ⟨[], rfl, fa0, rfl, by rw [tws_nil]; omega⟩
  · rw [op_v4 v1]
    obtain ⟨d1, d2⟩ := dv_lt v4
    exact ⟨_, rfl, fa1 (ch_u hc d1 (by omega)).1 (fa1 (ch_u hc d2 hto).1 fa0), rfl, by rw [tws_cons, tws_cons, tws_nil, tw_0, tw_0]; omega⟩
  · rw [op_v5 v1]
    have := (ch_p hc v2 hto).2
    exact ⟨_, rfl, fa1 (ch_p hc v2 hto).1 fa0, rfl, by rw [tws_cons, tws_nil, tw_1]; omega⟩
  · rw [op_v6 v1]
    obtain ⟨d1, d2⟩ := dv_lt v5
    have d3 : q / tb_w T 0 (k + 1) c2 to < tb_w T 0 (k + 1) a c * tb_w T 0 (k + 1) c c2 := by omega
    obtain ⟨d4, d5⟩ := dv_lt d3
    exact ⟨_, rfl, fa1 (ch_u hc d4 (by omega)).1 (fa1 (ch_u hc d5 (by omega)).1 (fa1 (ch_u hc d2 hto).1 fa0)), rfl, by rw [tws_cons, tws_cons, tws_cons, tws_nil, tw_0, tw_0, tw_0]; omega⟩
  · rw [op_v7 v1]
    have := (ch_u hc v2 hto).2
    exact ⟨_, rfl, fa1 (ch_u hc v2 hto).1 fa0, rfl, by rw [tws_cons, tws_nil, tw_0]; omega⟩
  · have e : op_v sg T k a to f c c2 q P = op_p (0, k + 1, a, c, q) (op_l c (2 * fl_ sg (k + 1)) P) := by
      rcases v1 with v1 | v1
      · exact op_v8 v1
      · exact op_v9 v1
    rw [e]
    exact ⟨_, rfl, fa1 (ch_u hc v4 (by omega)).1 fa0, rfl, by rw [tws_cons, tws_nil, tw_0]; omega⟩
  · rw [op_v10 v1]
    obtain ⟨d1, d2⟩ := dv_lt v4
    exact ⟨_, rfl, fa1 (ch_u hc d1 (by omega)).1 (fa1 (ch_p hc d2 hto).1 fa0), rfl, by rw [tws_cons, tws_cons, tws_nil, tw_0, tw_1]; omega⟩
  · rw [op_v11 v1]
    obtain ⟨d1, d2⟩ := dv_lt v4
    exact ⟨_, rfl, fa1 (ch_p hc d1 (by omega)).1 (fa1 (ch_u hc d2 hto).1 fa0), rfl, by rw [tws_cons, tws_cons, tws_nil, tw_1, tw_0]; omega⟩
theorem uq_lt (hc : tc_ w sg g T I) {k a to f c c2 q : Nat} (hto : to ≤ w.1) (hv : un_q T k a to f c c2 q) : a < to := by
  rcases hv with ⟨-, -, v⟩ | ⟨v1, v2, v3, v4⟩ | ⟨v1, v2⟩ | ⟨v1, v2, v3, v4, v5⟩ | ⟨v1, v2⟩ | ⟨v1, v2, v3, v4⟩ | ⟨v1, v2, v3, v4⟩ | ⟨v1, v2, v3, v4⟩
  · exact v
  · omega
  · exact (ch_p hc v2 hto).2
  · omega
  · have := (ch_u hc v2 hto).2
    omega
  · omega
  · omega
  · omega
theorem u_ok (hc : tc_ w sg g T I) {k a b r : Nat} {e : sc_O} {q : Nat} {P : tk_P} (hab : a < b) (hb : b ≤ w.1) (hp : pk_ (sp_unit w sg T k a b) r = some (e, q)) : st_k w sg g T I (tw_ w.1 (0, k, a, b, r)) P (op_u sg T k a b e q P) := by
  obtain ⟨h1, h2, h3⟩ := pk_mem _ _ _ _ hp
  have hv := un_iq h1 h2
  unfold op_u
  rw [tw_0]
  cases hd : e.2.2.2.1
  · rw [hd, if_neg (by decide)] at hv
    rw [if_neg (by decide), if_neg (by decide)]
    obtain ⟨ns, n1, n2, n3, n4⟩ := v_ok hc (P := op_t e.1 P) (m := 3 * (b - a) - 2) hb (by omega) hv (Nat.le_refl _) (by omega)
    refine ⟨ns, n1, n2, ?_, by omega⟩
    rw [n3]
    show (P.2.1 ++ [e.1]).length + _ ≤ _
    rw [List.length_append]
    show P.2.1.length + 1 + _ ≤ _
    omega
  · rw [hd, if_pos rfl] at hv
    rw [if_pos rfl, if_pos rfl]
    have hab2 := uq_lt hc (show b - 1 ≤ w.1 by omega) hv
    obtain ⟨ns, n1, n2, n3, n4⟩ := v_ok hc (P := op_p (4, 12, 0, 0, 0) (op_t e.1 P)) (m := 3 * (b - a) - 3) (show b - 1 ≤ w.1 by omega) (by omega) hv (by omega) (by omega)
    refine ⟨ns ++ [(4, 12, 0, 0, 0)], ?_, ?_, ?_, ?_⟩
    · rw [n1, List.append_assoc]; rfl
    · intro y hy
      rcases List.mem_append.mp hy with h | h
      · exact n2 y h
      · rw [List.mem_singleton] at h
        subst h
        exact Or.inr (Or.inr (Or.inr (Or.inr ⟨rfl, rfl⟩)))
    · rw [n3, tws_app, tws_cons, tws_nil, tw_4]
      show (P.2.1 ++ [e.1]).length + _ ≤ _
      rw [List.length_append]
      show P.2.1.length + 1 + _ ≤ _
      omega
    · rw [tws_app, tws_cons, tws_nil, tw_4]
      omega
theorem p_ok (hc : tc_ w sg g T I) {k a b r : Nat} {e : sc_O} {q : Nat} {P : tk_P} (hk : k < 7) (hab : a < b) (hb : b ≤ w.1) (hp : pk_ (sp_pair w sg T k a b) r = some (e, q)) : st_k w sg g T I (tw_ w.1 (1, k, a, b, r)) P (op_pr sg k a b e q P) := by
  obtain ⟨h1, h2, h3⟩ := pk_mem _ _ _ _ hp
  unfold op_pr
  rw [tw_1]
  unfold sp_pair at h1
  rcases List.mem_append.mp h1 with h1 | h1
  · by_cases hx : sp_perf sg k = false ∧ k < 6
    · rw [if_pos hx] at h1
      rcases List.mem_append.mp h1 with h1 | h1
      · by_cases hd : ro_plain w a k = true ∧ ro_dot w (a + 1) = true
        · rw [if_pos hd, List.mem_singleton] at h1
          subst h1
          have h4 := ch_u hc (q := q) h2 hb
          rw [if_neg (show ¬ (13 : Nat) = 15 by decide), if_pos rfl]
          refine ⟨[(0, k + 1, a + 2, b, q)], rfl, fa1 h4.1 fa0, ?_, ?_⟩
          · show (P.2.1 ++ [13]).length + _ ≤ _
            rw [List.length_append, tws_cons, tws_nil, tw_0]
            show P.2.1.length + 1 + _ ≤ _
            omega
          · rw [tws_cons, tws_nil, tw_0]; omega
        · rw [if_neg hd] at h1; cases h1
      · by_cases hd : a + 2 < b ∧ ro_plain w (b - 2) k = true ∧ ro_dot w (b - 1) = true
        · rw [if_pos hd, List.mem_singleton] at h1
          subst h1
          have h4 := ch_u hc (q := q) h2 (show b - 2 ≤ w.1 by omega)
          rw [if_neg (show ¬ (14 : Nat) = 15 by decide), if_neg (show ¬ (14 : Nat) = 13 by decide)]
          refine ⟨[(0, k + 1, a, b - 2, q)], rfl, fa1 h4.1 fa0, ?_, ?_⟩
          · show (P.2.1 ++ [14]).length + _ ≤ _
            rw [List.length_append, tws_cons, tws_nil, tw_0]
            show P.2.1.length + 1 + _ ≤ _
            omega
          · rw [tws_cons, tws_nil, tw_0]; omega
        · rw [if_neg hd] at h1; cases h1
    · rw [if_neg hx] at h1; cases h1
  · have h15 : e.1 = 15 := by
      obtain ⟨c, c2, -, -, -, rfl⟩ := th_inv h1
      rfl
    rw [if_pos h15]
    obtain ⟨c, c2, z1, z2, z3, -⟩ := th_inv h1
    exact (th_ok hk hb (by omega) h1 h2).1
theorem tk_ok (hc : tc_ w sg g T I) {t : tk_T} {P : tk_P} (hv : tv_ w sg g T I t) : st_k w sg g T I (tw_ w.1 t) P (tk_s w sg g T I t P) := by
  obtain ⟨t1, k, a, b, r⟩ := t
  rcases hv with ⟨v1, v2, v3, v4⟩ | ⟨v1, v2, v3, v4, v5, v6⟩ | ⟨v1, v2, v3, v4, v5, v6⟩ | ⟨v1, v2, v3, v4⟩ | ⟨v1, v2⟩
  · have e : t1 = 3 := v1
    subst e
    exact is_ok hc v2 v3 v4
  · have e : t1 = 0 := v1
    subst e
    obtain ⟨e, q, hp⟩ := pk_some _ _ v6
    show st_k w sg g T I _ P (match pk_ (sp_unit w sg T k a b) r with | some x => op_u sg T k a b x.1 x.2 P | none => P)
    have hp : pk_ (sp_unit w sg T k a b) r = some (e, q) := hp
    rw [hp]
    exact u_ok hc v3 v4 hp
  · have e : t1 = 1 := v1
    subst e
    obtain ⟨e, q, hp⟩ := pk_some _ _ v6
    show st_k w sg g T I _ P (match pk_ (sp_pair w sg T k a b) r with | some x => op_pr sg k a b x.1 x.2 P | none => P)
    have hp : pk_ (sp_pair w sg T k a b) r = some (e, q) := hp
    rw [hp]
    exact p_ok hc v2 v3 v4 hp
  · have e : t1 = 2 := v1
    subst e
    show st_k w sg g T I 1 P (op_d sg k a b P)
    unfold op_d
    by_cases h : b = a + 1
    · rw [if_pos h]; exact one_ok (Nat.le_refl _) rfl rfl
    · rw [if_neg h]; exact one_ok (Nat.le_refl _) rfl rfl
  · have e : t1 = 4 := v1
    subst e
    exact one_ok (Nat.le_refl _) rfl rfl
/-- all tasks done, f steps at the most -/
def tk_r (w : ro_w) (sg g : Nat) (T I : Nat → Nat) : Nat → tk_P → tk_P
  | 0, P => P
  | f + 1, P => match P.1 with
    | [] => P
    | t :: rest => tk_r w sg g T I f (tk_s w sg g T I t (rest, P.2))
theorem tw_pos (hc : tc_ w sg g T I) {t : tk_T} (hv : tv_ w sg g T I t) : 1 ≤ tw_ w.1 t := by
  obtain ⟨ns, -, -, -, h⟩ := tk_ok hc (P := ([], [], fun _ => 0)) hv
  omega
theorem tws_len (hc : tc_ w sg g T I) : ∀ l : List tk_T, (∀ t ∈ l, tv_ w sg g T I t) → l.length ≤ tws_ w.1 l
  | [], _ => Nat.zero_le _
  | t :: l, h => by
    have h1 := tw_pos hc (h t List.mem_cons_self)
    have h2 := tws_len hc l (fun x hx => h x (List.mem_cons_of_mem _ hx))
    rw [tws_cons, List.length_cons]
    omega
end STK
