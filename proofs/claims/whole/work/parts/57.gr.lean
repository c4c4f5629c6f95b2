section LN4
variable {w : ro_w} {sg g : Nat} {T I : Nat → Nat}
theorem perm_of {A B : List gR} (h : ∀ x, A.count x = B.count x) : A.Perm B := List.perm_iff_count.mpr h
theorem ct_of {A B : List gR} (h : A.Perm B) (x : gR) : A.count x = B.count x := List.perm_iff_count.mp h x
/-- forms 1 and 2: their bodies -/
theorem c12 {k a b : Nat} {f : Nat} {c : Bool} (hf : f = 1 ∨ f = 2) (hc : hd_ w sg g k f a = c) : rs (cF w sg g k f a) b = if b = a + 1 then Lb c ([f], [fl_ sg k]) else [] := by
  have e1 : t0_ sg k f = [] := by rcases hf with rfl | rfl <;> rfl
  have e2 : iv_ sg k f = [fl_ sg k] := by rcases hf with rfl | rfl <;> rfl
  unfold cF Lb
  rw [hc, e1, e2]
  cases c
  · rw [if_neg (by decide), rs_nil]; split <;> rfl
  · rw [if_pos rfl, if_pos rfl]
    show rs [(gc ([f], [fl_ sg k]) ([], []), a + 1)] b = _
    rw [rs_cons, rs_nil, List.append_nil, gc_nil]
    by_cases h : b = a + 1
    · rw [if_pos h.symm, if_pos h]
    · rw [if_neg (fun z => h z.symm), if_neg h]
theorem c3 {k a b : Nat} : rs (cF w sg g k 3 a) b = if sp_perf sg k = true ∧ b = a + 2 then Lb (ro_plain w a k && ro_dot w (a + 1)) ([3], [fl_ sg k, 0]) else [] := by
  unfold cF Lb
  rw [show hd_ w sg g k 3 a = (sp_perf sg k && (ro_plain w a k && ro_dot w (a + 1))) from rfl]
  cases sp_perf sg k
  · rw [if_neg (by simp), if_neg (c := _ ∧ _) (by simp)]; rfl
  · cases (ro_plain w a k && ro_dot w (a + 1))
    · rw [if_neg (by simp), rs_nil]; split <;> rfl
    · rw [if_pos rfl]
      show rs [(gc ([3], [fl_ sg k, 0]) ([], []), a + 2)] b = _
      rw [rs_cons, rs_nil, List.append_nil, gc_nil]
      by_cases h : b = a + 2
      · rw [if_pos h.symm, if_pos ⟨rfl, h⟩]
      · rw [if_neg (fun z => h z.symm), if_neg (fun z => h z.2)]
theorem c3t {k a b : Nat} (hp : sp_perf sg k = true) : rs (cF w sg g k 3 a) b = if b = a + 2 then Lb (ro_plain w a k && ro_dot w (a + 1)) ([3], [fl_ sg k, 0]) else [] := by
  rw [c3]
  by_cases h : b = a + 2
  · rw [if_pos ⟨hp, h⟩, if_pos h]
  · rw [if_neg (fun z => h z.2), if_neg h]
theorem Lb_map {c : Bool} {x : gR} {f : gR → gR} : (Lb c x).map f = Lb c (f x) := by unfold Lb; cases c <;> rfl
theorem f11 (F : Nat → List gR) : [1, 2, 3, 4, 5, 6, 7, 8, 9, 10, 11].flatMap F = F 1 ++ (F 2 ++ (F 3 ++ (F 4 ++ (F 5 ++ (F 6 ++ (F 7 ++ (F 8 ++ (F 9 ++ (F 10 ++ F 11))))))))) := by
  simp only [List.flatMap_cons, List.flatMap_nil, List.append_nil]
theorem pq_U (hc : tc_ w sg g T I) {k : Nat} (hk : k ≤ 6) (hq : pq w sg g T (k + 1)) (a b : Nat) : (rs (pU w sg g k a) b).Perm (gU w sg T k a b) := by
  by_cases hab : a < b ∧ b ≤ w.1
  · rw [pU_eq hk, rs_fm, f11, gU_L hc hk hab.1 hab.2]
    cases hp : sp_perf sg k
    · rw [if_pos rfl, pF_no (Or.inr hp), pF_no (Or.inr hp), pF_no (Or.inr hp), pF_no (Or.inr hp), pF_no (Or.inr hp), pF_no (Or.inr hp), pF_no (Or.inr hp), pF_no (Or.inr hp), pF_no (Or.inr hp), pF_no (Or.inr hp), pF_no (Or.inr hp)]
      rw [c12 (Or.inl rfl) (c := ro_plain w a k) rfl, c12 (Or.inr rfl) (c := ro_rest w a k) rfl, c3, hp, if_neg (c := _ ∧ _) (by simp)]
      have z : ∀ f, f = 6 ∨ f = 8 ∨ f = 9 ∨ f = 10 ∨ f = 11 → rs (cF w sg g k f a) b = [] := fun f hf => rs_cF0 (by rw [hd_pf f hf, hp]; decide)
      rw [z 6 (by omega), z 8 (by omega), z 9 (by omega), z 10 (by omega), z 11 (by omega), rs_cF0 (f := 7) (by rw [show hd_ w sg g k 7 a = (sp_perf sg k && ro_plain w a k) from rfl, hp]; simp)]
      by_cases h6 : k < 6
      · rw [if_pos h6]
        have p4 := c4 (a := a) hq hab.2 hp h6
        have p5 := c5 (a := a) hq hab.2 hp h6
        apply perm_of
        intro x
        have e4 := ct_of p4 x
        have e5 := ct_of p5 x
        by_cases h1 : b = a + 1
        · simp only [if_pos h1, List.count_append, List.count_nil, e4, e5]
          omega
        · simp only [if_neg h1, List.count_append, List.count_nil, e4, e5]
          omega
      · rw [if_neg h6]
        have z2 : ∀ f, f = 4 ∨ f = 5 ∨ f = 14 → rs (cF w sg g k f a) b = [] := fun f hf => rs_cF0 (by rw [hd_ip f hf, hp]; simp [h6])
        rw [z2 4 (by omega), z2 5 (by omega)]
        by_cases h1 : b = a + 1
        · simp only [if_pos h1, List.append_nil, List.nil_append]
          exact List.Perm.refl _
        · simp only [if_neg h1, List.append_nil, List.nil_append]
          exact List.Perm.refl _
    · rw [if_neg (c := true = false) (by decide), pF_dv hp (by omega), pF_dv hp (by omega), pF_no (f := 3) (Or.inl (by omega)), pF_no (f := 4) (Or.inl (by omega)), pF_no (f := 5) (Or.inl (by omega)), pF_dv hp (by omega), pF_dv hp (by omega), pF_dv hp (by omega), pF_dv hp (by omega), pF_dv hp (by omega), pF_dv hp (by omega)]
      have z2 : ∀ f, f = 4 ∨ f = 5 ∨ f = 14 → rs (cF w sg g k f a) b = [] := fun f hf => rs_cF0 (by rw [hd_ip f hf, hp]; simp)
      rw [z2 4 (by omega), z2 5 (by omega), c3t hp]
      have d : ∀ f, (rs (gb (cF w sg g k f a) (pDv w)) b).Perm (rs (cF w sg g k f a) b ++ (if 1 ≤ b ∧ ro_dot w (b - 1) = true then (rs (cF w sg g k f a) (b - 1)).map (fun x => gc x ([12], [0])) else [])) := fun f => rs_dv _ b
      apply perm_of
      intro x
      simp only [List.count_append, List.count_nil]
      rw [ct_of (d 1) x, ct_of (d 2) x, ct_of (d 6) x, ct_of (d 7) x, ct_of (d 8) x, ct_of (d 9) x, ct_of (d 10) x, ct_of (d 11) x]
      simp only [List.count_append]
      have hb1 : b - 1 ≤ w.1 := by omega
      rw [ct_of (c6 (a := a) hq hab.2 hp) x, ct_of (c7 (a := a) hq hab.2 hp) x, ct_of (c8 (a := a) hq hab.2 hp) x, ct_of (c9 (a := a) hq hab.2 hp) x, ct_of (c10 (a := a) hq hab.2 hp) x, ct_of (c11 (a := a) hq hab.2 hp) x]
      unfold Lp
      rw [c12 (b := b) (Or.inl rfl) (c := ro_plain w a k) rfl, c12 (b := b) (Or.inr rfl) (c := ro_rest w a k) rfl]
      by_cases hd : ro_dot w (b - 1) = true
      · have hd1 : 1 ≤ b ∧ ro_dot w (b - 1) = true := ⟨by omega, hd⟩
        simp only [if_pos hd1, if_pos hd, List.map_append, List.count_append]
        rw [ct_of ((c6 (a := a) hq hb1 hp).map _) x, ct_of ((c7 (a := a) hq hb1 hp).map _) x, ct_of ((c8 (a := a) hq hb1 hp).map _) x, ct_of ((c9 (a := a) hq hb1 hp).map _) x, ct_of ((c10 (a := a) hq hb1 hp).map _) x, ct_of ((c11 (a := a) hq hb1 hp).map _) x]
        rw [c12 (b := b - 1) (Or.inl rfl) (c := ro_plain w a k) rfl, c12 (b := b - 1) (Or.inr rfl) (c := ro_rest w a k) rfl]
        by_cases h2 : b = a + 2
        · have h1 : ¬ b = a + 1 := by omega
          have h3 : b - 1 = a + 1 := by omega
          have hd' : ro_dot w (a + 1) = true := by rw [← h3]; exact hd
          simp only [if_pos h2, if_neg h1, if_pos h3, List.count_append, List.count_nil, Lb_map, hd', Bool.and_true]
          rw [show gc ([1], [fl_ sg k]) ([12], [0]) = ([1, 12], [fl_ sg k, 0]) from rfl, show gc ([2], [fl_ sg k]) ([12], [0]) = ([2, 12], [fl_ sg k, 0]) from rfl]
          omega
        · have h3 : ¬ b - 1 = a + 1 := by omega
          simp only [if_neg h2, if_neg h3, List.count_nil, List.map_nil]
          by_cases h1 : b = a + 1
          · simp only [if_pos h1, List.count_append]; omega
          · simp only [if_neg h1, List.count_nil]; omega
      · have hd1 : ¬ (1 ≤ b ∧ ro_dot w (b - 1) = true) := fun z => hd z.2
        simp only [if_neg hd1, if_neg hd, List.count_nil, List.count_append]
        by_cases h2 : b = a + 2
        · have h1 : ¬ b = a + 1 := by omega
          have hd' : ro_dot w (a + 1) = false := by
            rw [show a + 1 = b - 1 from by omega]
            simpa using hd
          simp only [if_pos h2, if_neg h1, List.count_append, List.count_nil, hd', Bool.and_false]
          unfold Lb
          simp only [if_neg (show ¬ (false = true) by decide), List.count_nil]
          omega
        · simp only [if_neg h2, List.count_nil]
          by_cases h1 : b = a + 1
          · simp only [if_pos h1, List.count_append]; omega
          · simp only [if_neg h1, List.count_nil]; omega
  · rw [rs_ge (eS_U k a) hab, gU_ge hab]
theorem pq_P (hc : tc_ w sg g T I) {k : Nat} (hk : k ≤ 6) (hq : pq w sg g T (k + 1)) (a b : Nat) : (rs (pP w sg g k a) b).Perm (gP w sg T k a b) := by
  by_cases hab : a < b ∧ b ≤ w.1
  · rw [pP_eq hk, rs_fm, gP_L hc hk hab.1 hab.2]
    simp only [List.flatMap_cons, List.flatMap_nil, List.append_nil]
    rw [pF_no (f := 13) (Or.inl (by omega)), pF_no (f := 14) (Or.inl (by omega)), pF_no (f := 15) (Or.inl (by omega))]
    by_cases hp : sp_perf sg k = false ∧ k < 6
    · rw [if_pos hp, List.append_assoc]
      exact (c13 (a := a) hq hab.2 hp.1 hp.2).append ((c14 (a := a) hq hab.2 hp.1 hp.2).append (c15 hab.2))
    · rw [if_neg hp]
      have z : ¬ ((!(sp_perf sg k) && decide (k < 6)) = true) := by
        intro q
        simp at q
        exact hp q
      rw [rs_cF0 (f := 13) (by rw [show hd_ w sg g k 13 a = ((!(sp_perf sg k) && decide (k < 6)) && (ro_plain w a k && ro_dot w (a + 1))) from rfl]; intro q; rw [Bool.and_eq_true] at q; exact z q.1), rs_cF0 (f := 14) (by rw [hd_ip 14 (by omega)]; exact z)]
      exact c15 hab.2
  · rw [rs_ge (eS_P k a) hab, gP_ge hab]
theorem pq_all (hc : tc_ w sg g T I) : ∀ n k, k + n = 7 → pq w sg g T k
  | 0, k, h => fun a b => by
    rw [pU_7 (by omega), pP_7 (by omega), gU_7 (by omega), gP_7 (by omega)]
    exact ⟨List.Perm.refl _, List.Perm.refl _⟩
  | n + 1, k, h => fun a b => by
    have ih := pq_all hc n (k + 1) (by omega)
    exact ⟨pq_U hc (by omega) ih a b, pq_P hc (by omega) ih a b⟩
theorem pq_k (hc : tc_ w sg g T I) (k : Nat) : pq w sg g T k := by
  rcases Nat.lt_or_ge k 8 with z | z
  · exact pq_all hc (7 - k) k (by omega)
  · intro a b
    rw [pU_7 (by omega), pP_7 (by omega), gU_7 (by omega), gP_7 (by omega)]
    exact ⟨List.Perm.refl _, List.Perm.refl _⟩
end LN4
