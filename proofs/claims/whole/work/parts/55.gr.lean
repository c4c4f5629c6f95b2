section LN2
variable {w : ro_w} {sg g : Nat} {T I : Nat → Nat}
theorem per_cq {k a b : Nat} (hb : b ≤ w.1) (hl : lq w sg T (k + 1)) {dot : Bool} : ∀ e ∈ sp_per w T k a b dot, cq e.2.2.2.2 (gB sg (gU w sg T (k + 1)) (gP w sg T (k + 1)) k a b e.1 e.2.1 e.2.2.1).length ∧ e.2.2.2.1 = dot := by
  apply per_all
  · intro m p h1 h2 h3
    rw [show gB sg (gU w sg T (k + 1)) (gP w sg T (k + 1)) k a b (sp_6 T k a b dot m p).1 (sp_6 T k a b dot m p).2.1 (sp_6 T k a b dot m p).2.2.1 = (gx (gU w sg T (k + 1) a m) (gx (gU w sg T (k + 1) m p) (gU w sg T (k + 1) p b))).map (gc ([6], [])) from rfl, List.length_map, gx_len, gx_len, ← Nat.mul_assoc]
    exact ⟨cq_mul (cq_cap (cq_mul (hl a m (by omega)).1 (hl m p (by omega)).1)) (hl p b hb).1, rfl⟩
  · intro _
    rw [show gB sg (gU w sg T (k + 1)) (gP w sg T (k + 1)) k a b 7 (a + 1) 0 = (gU w sg T (k + 1) (a + 1) b).map (gc ([7], [2 * fl_ sg (k + 1)])) from rfl, List.length_map]
    exact ⟨(hl (a + 1) b hb).1, rfl⟩
  · intro _ _ _ _
    rw [show gB sg (gU w sg T (k + 1)) (gP w sg T (k + 1)) k a b 8 (b - 1) 0 = (gU w sg T (k + 1) a (b - 1)).map (fun x => gc (gc ([8], []) x) ([], [2 * fl_ sg (k + 1)])) from rfl, List.length_map]
    exact ⟨(hl a (b - 1) (by omega)).1, rfl⟩
  · intro _ _ _
    rw [show gB sg (gU w sg T (k + 1)) (gP w sg T (k + 1)) k a b 9 (b - 1) 0 = (gU w sg T (k + 1) a (b - 1)).map (fun x => gc (gc ([9], []) x) ([], [2 * fl_ sg (k + 1)])) from rfl, List.length_map]
    exact ⟨(hl a (b - 1) (by omega)).1, rfl⟩
  · intro m h1 h2
    rw [show gB sg (gU w sg T (k + 1)) (gP w sg T (k + 1)) k a b (sp_10 T k a b dot m).1 (sp_10 T k a b dot m).2.1 (sp_10 T k a b dot m).2.2.1 = (gx (gU w sg T (k + 1) a m) (gP w sg T (k + 1) m b)).map (gc ([10], [])) from rfl, List.length_map, gx_len]
    exact ⟨cq_mul (hl a m (by omega)).1 (hl m b hb).2, rfl⟩
  · intro m h1 h2
    rw [show gB sg (gU w sg T (k + 1)) (gP w sg T (k + 1)) k a b (sp_11 T k a b dot m).1 (sp_11 T k a b dot m).2.1 (sp_11 T k a b dot m).2.2.1 = (gx (gP w sg T (k + 1) a m) (gU w sg T (k + 1) m b)).map (gc ([11], [])) from rfl, List.length_map, gx_len]
    exact ⟨cq_mul (hl a m (by omega)).2 (hl m b hb).1, rfl⟩
theorem cq0 {l : List gR} (h : cq 0 l.length) : l = [] := by
  unfold cq at h
  exact List.eq_nil_of_length_eq_zero (by omega)
/-! the bodies, form by form -/
def L6 (U : Nat → Nat → List gR) (a b : Nat) : List gR := (sp_rg a b).flatMap (fun m => (sp_rg m b).flatMap (fun p => (gx (U a m) (gx (U m p) (U p b))).map (gc ([6], []))))
def L7 (w : ro_w) (sg k : Nat) (U : Nat → Nat → List gR) (a b : Nat) : List gR := if ro_plain w a k = true then (U (a + 1) b).map (gc ([7], [2 * fl_ sg (k + 1)])) else []
def L8 (w : ro_w) (sg k : Nat) (U : Nat → Nat → List gR) (a b : Nat) : List gR := if a < b - 1 ∧ ro_plain w (b - 1) (k + 1) = true ∧ 0 ≤ ro_next w (b - 1) ∧ ro_next w (b - 1) ≤ k then (U a (b - 1)).map (fun x => gc (gc ([8], []) x) ([], [2 * fl_ sg (k + 1)])) else []
def L9 (w : ro_w) (sg k : Nat) (U : Nat → Nat → List gR) (a b : Nat) : List gR := if a < b - 1 ∧ ro_plain w (b - 1) k = true ∧ ro_next w (b - 1) ≠ k then (U a (b - 1)).map (fun x => gc (gc ([9], []) x) ([], [2 * fl_ sg (k + 1)])) else []
def L10 (U P : Nat → Nat → List gR) (a b : Nat) : List gR := (sp_rg a b).flatMap (fun m => (gx (U a m) (P m b)).map (gc ([10], [])))
def L11 (U P : Nat → Nat → List gR) (a b : Nat) : List gR := (sp_rg a b).flatMap (fun m => (gx (P a m) (U m b)).map (gc ([11], [])))
def Lp (w : ro_w) (sg k : Nat) (U P : Nat → Nat → List gR) (a b : Nat) : List gR := L6 U a b ++ (L7 w sg k U a b ++ (L8 w sg k U a b ++ (L9 w sg k U a b ++ (L10 U P a b ++ L11 U P a b))))
theorem per_L (hc : tc_ w sg g T I) {k a b : Nat} (hb : b ≤ w.1) {dot : Bool} : (sp_per w T k a b dot).flatMap (fun e => gB sg (gU w sg T (k + 1)) (gP w sg T (k + 1)) k a b e.1 e.2.1 e.2.2.1) = Lp w sg k (gU w sg T (k + 1)) (gP w sg T (k + 1)) a b := by
  have hl := lq_k hc (k + 1)
  unfold sp_per Lp
  rw [List.flatMap_append, List.flatMap_append, List.flatMap_append, List.flatMap_append, List.flatMap_append]
  congr 1
  · unfold sp_p6 L6
    rw [List.flatMap_assoc]
    apply fm_congr
    intro m hm
    rw [sp_rg_mem] at hm
    by_cases h0 : 0 < tb_w T 0 (k + 1) a m
    · rw [if_pos h0, List.flatMap_map]
      rfl
    · rw [if_neg h0]
      have e : gU w sg T (k + 1) a m = [] := cq0 (by have := (hl a m (by omega)).1; rw [show tb_w T 0 (k + 1) a m = 0 from by omega] at this; exact this)
      rw [e]
      symm
      exact fm_nil _
  · congr 1
    · unfold sp_p7 L7
      split
      · rw [List.flatMap_cons, List.flatMap_nil, List.append_nil]; rfl
      · rfl
    · congr 1
      · unfold sp_p8 L8
        split
        · rw [List.flatMap_cons, List.flatMap_nil, List.append_nil]; rfl
        · rfl
      · congr 1
        · unfold sp_p9 L9
          split
          · rw [List.flatMap_cons, List.flatMap_nil, List.append_nil]; rfl
          · rfl
        · rw [List.flatMap_map, List.flatMap_map]
          rfl
theorem per_O (hc : tc_ w sg g T I) {k a b : Nat} (hb : b ≤ w.1) : (sp_per w T k a b false).flatMap (gO sg (gU w sg T (k + 1)) (gP w sg T (k + 1)) k a b) = Lp w sg k (gU w sg T (k + 1)) (gP w sg T (k + 1)) a b := by
  rw [← per_L hc hb (dot := false)]
  apply fm_congr
  intro e he
  obtain ⟨h1, h2⟩ := per_cq hb (lq_k hc (k + 1)) e he
  unfold gO
  by_cases h0 : e.2.2.2.2 = 0
  · rw [if_pos h0]
    rw [h0] at h1
    exact (cq0 h1).symm
  · rw [if_neg h0, h2, if_neg (by decide)]
theorem per_Od (hc : tc_ w sg g T I) {k a b : Nat} (hb : b ≤ w.1) : (sp_per w T k a (b - 1) true).flatMap (gO sg (gU w sg T (k + 1)) (gP w sg T (k + 1)) k a b) = (Lp w sg k (gU w sg T (k + 1)) (gP w sg T (k + 1)) a (b - 1)).map (fun x => gc x ([12], [0])) := by
  rw [← per_L hc (show b - 1 ≤ w.1 by omega) (dot := true), List.map_flatMap]
  apply fm_congr
  intro e he
  obtain ⟨h1, h2⟩ := per_cq (show b - 1 ≤ w.1 by omega) (lq_k hc (k + 1)) e he
  unfold gO
  by_cases h0 : e.2.2.2.2 = 0
  · rw [if_pos h0]
    rw [h0] at h1
    rw [cq0 h1]; rfl
  · rw [if_neg h0, h2, if_pos rfl]
/-- a unit's readings, form by form -/
def Lb (b : Bool) (x : gR) : List gR := if b = true then [x] else []
theorem gU_L (hc : tc_ w sg g T I) {k a b : Nat} (hk : k ≤ 6) (hab : a < b) (hb : b ≤ w.1) : gU w sg T k a b =
    (if b = a + 1 then Lb (ro_plain w a k) ([1], [fl_ sg k]) ++ Lb (ro_rest w a k) ([2], [fl_ sg k]) else []) ++
    (if sp_perf sg k = false then (if k < 6 then (sp_rg a b).flatMap (fun m => (gx (gU w sg T (k + 1) a m) (gU w sg T (k + 1) m b)).map (gc ([4], []))) ++ (gP w sg T (k + 1) a b).map (gc ([5], [])) else [])
     else (if b = a + 2 then Lb (ro_plain w a k && ro_dot w (a + 1)) ([3], [fl_ sg k, 0]) ++ (Lb (ro_plain w a k && ro_dot w (a + 1)) ([1, 12], [fl_ sg k, 0]) ++ Lb (ro_rest w a k && ro_dot w (a + 1)) ([2, 12], [fl_ sg k, 0])) else []) ++
      (Lp w sg k (gU w sg T (k + 1)) (gP w sg T (k + 1)) a b ++ (if ro_dot w (b - 1) = true then (Lp w sg k (gU w sg T (k + 1)) (gP w sg T (k + 1)) a (b - 1)).map (fun x => gc x ([12], [0])) else []))) := by
  have hl := lq_k hc (k + 1)
  rw [gU_eq hk, if_pos ⟨hab, hb⟩]
  unfold sp_unit
  rw [List.flatMap_append]
  congr 1
  · unfold sp_u1
    by_cases h1 : b = a + 1
    · rw [if_pos h1, if_pos h1, List.flatMap_cons, List.flatMap_cons, List.flatMap_nil, List.append_nil]
      congr 1
      · unfold Lb gO
        cases ro_plain w a k <;> rfl
      · unfold Lb gO
        cases ro_rest w a k <;> rfl
    · rw [if_neg h1, if_neg h1]; rfl
  · by_cases hp : sp_perf sg k = false
    · rw [if_pos hp, if_pos hp]
      by_cases h6 : k < 6
      · rw [if_pos h6, if_pos h6, List.flatMap_append]
        congr 1
        · rw [List.flatMap_map]
          apply fm_congr
          intro m hm
          rw [sp_rg_mem] at hm
          have hq := cq_mul (hl a m (by omega)).1 (hl m b hb).1
          rw [← gx_len] at hq
          show (if tb_w T 0 (k + 1) a m * tb_w T 0 (k + 1) m b = 0 then [] else _) = _
          by_cases h0 : tb_w T 0 (k + 1) a m * tb_w T 0 (k + 1) m b = 0
          · rw [if_pos h0]
            rw [h0] at hq
            rw [cq0 hq]; rfl
          · rw [if_neg h0]; rfl
        · rw [List.flatMap_cons, List.flatMap_nil, List.append_nil]
          have hq := (hl a b hb).2
          show (if tb_w T 1 (k + 1) a b = 0 then [] else _) = _
          by_cases h0 : tb_w T 1 (k + 1) a b = 0
          · rw [if_pos h0]
            rw [h0] at hq
            rw [cq0 hq]; rfl
          · rw [if_neg h0]; rfl
      · rw [if_neg h6, if_neg h6]; rfl
    · rw [if_neg hp, if_neg hp, List.flatMap_append, List.flatMap_append, per_O hc hb]
      congr 1
      · unfold sp_u3
        by_cases h2 : b = a + 2
        · rw [if_pos h2, if_pos h2, List.flatMap_cons, List.flatMap_cons, List.flatMap_cons, List.flatMap_nil, List.append_nil]
          congr 1
          · unfold Lb gO
            cases (ro_plain w a k && ro_dot w (a + 1)) <;> rfl
          · congr 1
            · unfold Lb gO
              cases (ro_plain w a k && ro_dot w (a + 1)) <;> rfl
            · unfold Lb gO
              cases (ro_rest w a k && ro_dot w (a + 1)) <;> rfl
        · rw [if_neg h2, if_neg h2]; rfl
      · congr 1
        by_cases hd : ro_dot w (b - 1) = true
        · rw [if_pos hd, if_pos hd, per_Od hc hb]
        · rw [if_neg hd, if_neg hd]; rfl
theorem gP_L (hc : tc_ w sg g T I) {k a b : Nat} (hk : k ≤ 6) (hab : a < b) (hb : b ≤ w.1) : gP w sg T k a b =
    (if sp_perf sg k = false ∧ k < 6 then (if ro_plain w a k = true ∧ ro_dot w (a + 1) = true then (gU w sg T (k + 1) (a + 2) b).map (gc ([13], [3 * fl_ sg (k + 1), 0])) else []) ++ (if a + 2 < b ∧ ro_plain w (b - 2) k = true ∧ ro_dot w (b - 1) = true then (gU w sg T (k + 1) a (b - 2)).map (fun x => gc (gc ([14], []) x) ([], [3 * fl_ sg (k + 1), 0])) else []) else []) ++ (sp_thirds w k a b).flatMap (gQ sg (fun _ _ => []) k a b) := by
  have hl := lq_k hc (k + 1)
  rw [gP_eq hk, if_pos ⟨hab, hb⟩]
  unfold sp_pair
  rw [List.flatMap_append]
  congr 1
  · by_cases hp : sp_perf sg k = false ∧ k < 6
    · rw [if_pos hp, if_pos hp, List.flatMap_append]
      congr 1
      · by_cases h1 : ro_plain w a k = true ∧ ro_dot w (a + 1) = true
        · rw [if_pos h1, if_pos h1, List.flatMap_cons, List.flatMap_nil, List.append_nil]
          have hq := (hl (a + 2) b hb).1
          show (if tb_w T 0 (k + 1) (a + 2) b = 0 then [] else _) = _
          by_cases h0 : tb_w T 0 (k + 1) (a + 2) b = 0
          · rw [if_pos h0]
            rw [h0] at hq
            rw [cq0 hq]; rfl
          · rw [if_neg h0]; rfl
        · rw [if_neg h1, if_neg h1]; rfl
      · by_cases h1 : a + 2 < b ∧ ro_plain w (b - 2) k = true ∧ ro_dot w (b - 1) = true
        · rw [if_pos h1, if_pos h1, List.flatMap_cons, List.flatMap_nil, List.append_nil]
          have hq := (hl a (b - 2) (by omega)).1
          show (if tb_w T 0 (k + 1) a (b - 2) = 0 then [] else _) = _
          by_cases h0 : tb_w T 0 (k + 1) a (b - 2) = 0
          · rw [if_pos h0]
            rw [h0] at hq
            rw [cq0 hq]; rfl
          · rw [if_neg h0]; rfl
        · rw [if_neg h1, if_neg h1]; rfl
    · rw [if_neg hp, if_neg hp]; rfl
  · apply fm_congr
    intro e he
    obtain ⟨m, p, -, -, -, rfl⟩ := th_inv he
    rfl
end LN2
