section LN3
variable {w : ro_w} {sg g : Nat} {T I : Nat → Nat}
theorem fm_z {α β : Type} {F : α → List β} {l : List α} (h : ∀ x ∈ l, F x = []) : l.flatMap F = [] := (fm_congr h).trans (fm_nil l)
theorem rg_cut {β : Type} {F : Nat → List β} {a b N : Nat} (hb : b ≤ N) (h : ∀ m, ¬ (a < m ∧ m < b) → F m = []) : (List.range N).flatMap F = (sp_rg a b).flatMap F := by
  have z : ∀ l : List Nat, (∀ m ∈ l, ¬ (a < m ∧ m < b)) → l.flatMap F = [] := by
    intro l hl
    rw [← fm_nil (β := β) l]
    exact fm_congr (fun m hm => h m (hl m hm))
  by_cases hab : a + 1 ≤ b
  · have e : List.range N = List.range' 0 (a + 1) ++ (List.range' (a + 1) (b - (a + 1)) ++ List.range' b (N - b)) := by
      rw [List.range_eq_range']
      have e1 := List.range'_append (s := a + 1) (m := b - (a + 1)) (n := N - b) (step := 1)
      rw [show a + 1 + 1 * (b - (a + 1)) = b from by omega] at e1
      rw [e1]
      have e2 := List.range'_append (s := 0) (m := a + 1) (n := b - (a + 1) + (N - b)) (step := 1)
      rw [show 0 + 1 * (a + 1) = a + 1 from by omega] at e2
      rw [e2]
      congr 1
      omega
    rw [e, List.flatMap_append, List.flatMap_append, z (List.range' 0 (a + 1)) (fun m hm => by rw [List.mem_range'_1] at hm; omega), z (List.range' b (N - b)) (fun m hm => by rw [List.mem_range'_1] at hm; omega), List.append_nil]
    rfl
  · rw [z _ (fun m _ => by omega), sp_rg_0 (by omega)]
    rfl
theorem rg_one {β : Type} {F : Nat → List β} {m0 N : Nat} (hm : m0 < N) (h : ∀ m, m ≠ m0 → F m = []) : (List.range N).flatMap F = F m0 := by
  cases m0 with
  | zero =>
    have e : List.range N = 0 :: List.range' 1 (N - 1) := by
      rw [List.range_eq_range', show N = (N - 1) + 1 from by omega]
      rfl
    rw [e, List.flatMap_cons]
    have : (List.range' 1 (N - 1)).flatMap F = [] := by
      rw [← fm_nil (β := β) (List.range' 1 (N - 1))]
      exact fm_congr (fun m hm => h m (by rw [List.mem_range'_1] at hm; omega))
    rw [this, List.append_nil]
  | succ n =>
    rw [rg_cut (a := n) (b := n + 2) (by omega) (fun m hm => h m (by omega)), sp_rg_s (by omega), sp_rg_0 (by omega), List.flatMap_cons, List.flatMap_nil, List.append_nil]
theorem rs_ge {A : gM} {p b : Nat} (hA : eS w A p) (h : ¬ (p < b ∧ b ≤ w.1)) : rs A b = [] := by
  apply List.eq_nil_iff_forall_not_mem.mpr
  intro x hx
  have := hA _ (rs_mem.mp hx)
  exact h ⟨this.1, this.2.1⟩
theorem gx_fm (A : List gR) {α : Type} (l : List α) (F : α → List gR) : (gx A (l.flatMap F)).Perm (l.flatMap (fun p => gx A (F p))) := by
  unfold gx
  have e : A.flatMap (fun x => (l.flatMap F).map (gc x)) = A.flatMap (fun x => l.flatMap (fun p => (F p).map (gc x))) := fm_congr (fun x _ => List.map_flatMap)
  rw [e]
  exact fm_swap A (fun x p => (F p).map (gc x)) l
theorem rs_dv (A : gM) (b : Nat) : (rs (gb A (pDv w)) b).Perm (rs A b ++ (if 1 ≤ b ∧ ro_dot w (b - 1) = true then (rs A (b - 1)).map (fun x => gc x ([12], [0])) else [])) := by
  rw [rs_gb]
  have e : A.flatMap (fun x => (rs (pDv w x.2) b).map (gc x.1)) = A.flatMap (fun x => (if x.2 = b then [x.1] else []) ++ (if ro_dot w x.2 = true ∧ x.2 + 1 = b then [gc x.1 ([12], [0])] else [])) := by
    apply fm_congr
    intro x _
    unfold pDv
    rw [rs_cons, List.map_append]
    congr 1
    · by_cases h : x.2 = b
      · rw [if_pos h, if_pos h]; show [gc x.1 ([], [])] = [x.1]; rw [gc_nil]
      · rw [if_neg h, if_neg h]; rfl
    · by_cases h : ro_dot w x.2 = true
      · rw [if_pos h, rs_cons, rs_nil, List.append_nil]
        by_cases h2 : x.2 + 1 = b
        · rw [if_pos h2, if_pos ⟨h, h2⟩]; rfl
        · rw [if_neg h2, if_neg (fun z => h2 z.2)]; rfl
      · rw [if_neg h, if_neg (fun z => h z.1)]; rfl
  rw [e]
  refine (fm_app _ _ A).trans (List.Perm.of_eq ?_)
  congr 1
  · induction A with
    | nil => rfl
    | cons x A ih => rw [List.flatMap_cons, rs_cons, ih (fm_congr (fun y _ => by
        unfold pDv
        rw [rs_cons, List.map_append]
        congr 1
        · by_cases h : y.2 = b
          · rw [if_pos h, if_pos h]; show [gc y.1 ([], [])] = [y.1]; rw [gc_nil]
          · rw [if_neg h, if_neg h]; rfl
        · by_cases h : ro_dot w y.2 = true
          · rw [if_pos h, rs_cons, rs_nil, List.append_nil]
            by_cases h2 : y.2 + 1 = b
            · rw [if_pos h2, if_pos ⟨h, h2⟩]; rfl
            · rw [if_neg h2, if_neg (fun z => h2 z.2)]; rfl
          · rw [if_neg h, if_neg (fun z => h z.1)]; rfl))]
  · clear e
    by_cases h1 : 1 ≤ b ∧ ro_dot w (b - 1) = true
    · rw [if_pos h1]
      induction A with
      | nil => rfl
      | cons x A ih =>
        rw [List.flatMap_cons, rs_cons, List.map_append, ih]
        congr 1
        by_cases h2 : x.2 = b - 1
        · rw [if_pos h2, if_pos ⟨by rw [h2]; exact h1.2, by omega⟩]; rfl
        · rw [if_neg h2, if_neg (fun z => h2 (by omega))]; rfl
    · rw [if_neg h1]
      apply fm_z
      intro x _
      rw [if_neg]
      rintro ⟨z1, z2⟩
      exact h1 ⟨by omega, by rw [show b - 1 = x.2 from by omega]; exact z1⟩
/-- what is known of kind k + 1 -/
def pq (w : ro_w) (sg g : Nat) (T : Nat → Nat) (k : Nat) : Prop := ∀ a b, (rs (pU w sg g k a) b).Perm (gU w sg T k a b) ∧ (rs (pP w sg g k a) b).Perm (gP w sg T k a b)
theorem rs_cF {k f a b : Nat} (hh : hd_ w sg g k f a = true) : rs (cF w sg g k f a) b = (rs (sq_ (pK w sg g) (t0_ sg k f) (a + (iv_ sg k f).length)) b).map (gc ([f], iv_ sg k f)) := by
  unfold cF
  rw [if_pos hh, rs_map]
theorem rs_cF0 {k f a b : Nat} (hh : ¬ hd_ w sg g k f a = true) : rs (cF w sg g k f a) b = [] := by
  unfold cF
  rw [if_neg hh]; rfl
theorem sq_two (pk : gK → Nat → gM) (t u : gK) (p : Nat) : sq_ pk [t, u] p = gb (pk t p) (pk u) := by
  show gb (pk t p) (sq_ pk [u]) = _
  rw [sq_one']
theorem sq_three (pk : gK → Nat → gM) (t u v : gK) (p : Nat) : sq_ pk [t, u, v] p = gb (pk t p) (fun m => gb (pk u m) (pk v)) := by
  show gb (pk t p) (sq_ pk [u, v]) = _
  rw [show sq_ pk [u, v] = fun m => gb (pk u m) (pk v) from funext (sq_two pk u v)]
theorem pK_1 {k v p : Nat} : pK w sg g (1, k, v) p = pU w sg g k p := rfl
theorem pK_2 {k v p : Nat} : pK w sg g (2, k, v) p = pP w sg g k p := rfl
theorem lt_N {A : gM} {p : Nat} (h : eS w A p) : ∀ x ∈ A, x.2 < w.1 + 1 := fun x hx => by have := (h x hx).2.1; omega
/-- a unit and a unit (or a pair), between two places -/
theorem rs_seq {A : gM} {f : Nat → gM} {X Y : Nat → Nat → List gR} {a b : Nat} (hA : eS w A a) (hb : b ≤ w.1) (h1 : ∀ m, (rs A m).Perm (X a m)) (h2 : ∀ m, (rs (f m) b).Perm (Y m b)) (hX : ∀ m, ¬ a < m → X a m = []) (hY : ∀ m, ¬ m < b → Y m b = []) : (rs (gb A f) b).Perm ((sp_rg a b).flatMap (fun m => gx (X a m) (Y m b))) := by
  refine (rs_two (lt_N hA) (U := fun m => X a m) (V := fun m => Y m b) (fun m _ => h1 m) (fun m _ => h2 m)).trans (List.Perm.of_eq ?_)
  apply rg_cut (by omega)
  intro m hm
  by_cases z : a < m
  · rw [hY m (fun q => hm ⟨z, q⟩), gx_nil_r]
  · rw [hX m z, gx_nil_l]
theorem U0 {k a b : Nat} (h : ¬ a < b) : gU w sg T k a b = [] := gU_ge (fun z => h z.1)
theorem P0 {k a b : Nat} (h : ¬ a < b) : gP w sg T k a b = [] := gP_ge (fun z => h z.1)
theorem hd_ip {k p : Nat} (f : Nat) (hf : f = 4 ∨ f = 5 ∨ f = 14) : hd_ w sg g k f p = (!(sp_perf sg k) && decide (k < 6)) := by rcases hf with rfl | rfl | rfl <;> rfl
theorem hd_pf {k p : Nat} (f : Nat) (hf : f = 6 ∨ f = 8 ∨ f = 9 ∨ f = 10 ∨ f = 11) : hd_ w sg g k f p = sp_perf sg k := by rcases hf with rfl | rfl | rfl | rfl | rfl <;> rfl
theorem c4 {k a b : Nat} (hq : pq w sg g T (k + 1)) (hb : b ≤ w.1) (hp : sp_perf sg k = false) (hk : k < 6) : (rs (cF w sg g k 4 a) b).Perm ((sp_rg a b).flatMap (fun m => (gx (gU w sg T (k + 1) a m) (gU w sg T (k + 1) m b)).map (gc ([4], [])))) := by
  rw [rs_cF (by rw [hd_ip 4 (by omega), hp]; simp [hk]), show t0_ sg k 4 = [(1, k + 1, 0), (1, k + 1, 0)] from rfl, sq_two, ← List.map_flatMap]
  exact (rs_seq (eS_U (k + 1) a) hb (X := gU w sg T (k + 1)) (Y := gU w sg T (k + 1)) (fun m => (hq a m).1) (fun m => (hq m b).1) (fun m => U0) (fun m => U0)).map _
theorem c5 {k a b : Nat} (hq : pq w sg g T (k + 1)) (hb : b ≤ w.1) (hp : sp_perf sg k = false) (hk : k < 6) : (rs (cF w sg g k 5 a) b).Perm ((gP w sg T (k + 1) a b).map (gc ([5], []))) := by
  rw [rs_cF (by rw [hd_ip 5 (by omega), hp]; simp [hk]), show t0_ sg k 5 = [(2, k + 1, 0)] from rfl, sq_one]
  exact (hq a b).2.map _
theorem c6 {k a b : Nat} (hq : pq w sg g T (k + 1)) (hb : b ≤ w.1) (hp : sp_perf sg k = true) : (rs (cF w sg g k 6 a) b).Perm (L6 (gU w sg T (k + 1)) a b) := by
  rw [rs_cF (by rw [hd_pf 6 (by omega), hp]), show t0_ sg k 6 = [(1, k + 1, 0), (1, k + 1, 0), (1, k + 1, 0)] from rfl, sq_three]
  have h2 : ∀ m, (rs (gb (pU w sg g (k + 1) m) (pU w sg g (k + 1))) b).Perm ((sp_rg m b).flatMap (fun p => gx (gU w sg T (k + 1) m p) (gU w sg T (k + 1) p b))) := fun m => rs_seq (eS_U (k + 1) m) hb (X := gU w sg T (k + 1)) (Y := gU w sg T (k + 1)) (fun p => (hq m p).1) (fun p => (hq p b).1) (fun m => U0) (fun m => U0)
  have h3 := rs_seq (eS_U (k + 1) a) hb (X := gU w sg T (k + 1)) (Y := fun m b => (sp_rg m b).flatMap (fun p => gx (gU w sg T (k + 1) m p) (gU w sg T (k + 1) p b))) (fun m => (hq a m).1) h2 (fun m => U0) (fun m hm => by rw [sp_rg_0 (by omega)]; rfl)
  refine (h3.map _).trans ?_
  rw [List.map_flatMap]
  unfold L6
  apply fm_pw
  intro m _
  rw [← List.map_flatMap]
  exact (gx_fm _ _ _).map _
theorem c7 {k a b : Nat} (hq : pq w sg g T (k + 1)) (hb : b ≤ w.1) (hp : sp_perf sg k = true) : (rs (cF w sg g k 7 a) b).Perm (L7 w sg k (gU w sg T (k + 1)) a b) := by
  unfold L7
  have e : hd_ w sg g k 7 a = (sp_perf sg k && ro_plain w a k) := rfl
  by_cases h : ro_plain w a k = true
  · rw [rs_cF (by rw [e, hp, h]; rfl), if_pos h, show t0_ sg k 7 = [(1, k + 1, 0)] from rfl, sq_one]
    exact (hq (a + 1) b).1.map _
  · rw [rs_cF0 (by rw [e, hp]; simpa using h), if_neg h]
theorem c89 {k a b : Nat} (hq : pq w sg g T (k + 1)) (hb : b ≤ w.1) (hp : sp_perf sg k = true) {f : Nat} {c : Nat → Bool} {t : gK} {v : Nat} (hf : t0_ sg k f = [(1, k + 1, 0), t]) (hh : hd_ w sg g k f a = sp_perf sg k) (hi : iv_ sg k f = []) (ht : ∀ m, pK w sg g t m = if c m = true then [(([], [v]), m + 1)] else []) : (rs (cF w sg g k f a) b).Perm (if a < b - 1 ∧ c (b - 1) = true then (gU w sg T (k + 1) a (b - 1)).map (fun x => gc (gc ([f], []) x) ([], [v])) else []) := by
  rw [rs_cF (by rw [hh, hp]), hf, hi, sq_two]
  have h1 := rs_two (b := b) (lt_N (eS_U (sg := sg) (g := g) (k + 1) a)) (U := fun m => gU w sg T (k + 1) a m) (f := pK w sg g t) (V := fun m => if c m = true ∧ m + 1 = b then [([], [v])] else []) (fun m _ => (hq a m).1) (fun m _ => by
    rw [ht]
    by_cases hm : c m = true
    · rw [if_pos hm, rs_cons, rs_nil, List.append_nil]
      by_cases h2 : m + 1 = b
      · rw [if_pos h2, if_pos ⟨hm, h2⟩]
      · rw [if_neg h2, if_neg (fun z => h2 z.2)]
    · rw [if_neg hm, if_neg (fun z => hm z.1)]; exact List.Perm.refl _)
  refine (h1.map _).trans (List.Perm.of_eq ?_)
  by_cases h0 : a < b - 1 ∧ c (b - 1) = true
  · rw [rg_one (m0 := b - 1) (by omega) (fun m hm => by rw [if_neg (fun z => hm (by omega)), gx_nil_r]), if_pos h0, if_pos ⟨h0.2, by omega⟩]
    unfold gx
    rw [List.map_flatMap]
    induction gU w sg T (k + 1) a (b - 1) with
    | nil => rfl
    | cons x l ih =>
      rw [List.flatMap_cons, ih]
      show [gc ([f], []) (gc x ([], [v]))] ++ _ = gc (gc ([f], []) x) ([], [v]) :: _
      rw [gc_assoc]
      rfl
  · rw [if_neg h0]
    have : (List.range (w.1 + 1)).flatMap (fun m => gx (gU w sg T (k + 1) a m) (if c m = true ∧ m + 1 = b then [([], [v])] else [])) = [] := by
      apply fm_z
      intro m _
      by_cases h2 : c m = true ∧ m + 1 = b
      · have e : b - 1 = m := by omega
        rw [e] at h0
        rw [U0 (fun z => h0 ⟨z, h2.1⟩), gx_nil_l]
      · rw [if_neg h2, gx_nil_r]
    rw [this]; rfl
theorem c8 {k a b : Nat} (hq : pq w sg g T (k + 1)) (hb : b ≤ w.1) (hp : sp_perf sg k = true) : (rs (cF w sg g k 8 a) b).Perm (L8 w sg k (gU w sg T (k + 1)) a b) := by
  refine (c89 (t := (4, k + 1, 2 * fl_ sg (k + 1))) hq hb hp (c := fun m => al_ w m (k + 1)) rfl rfl rfl (fun m => rfl)).trans (List.Perm.of_eq ?_)
  unfold L8 al_
  by_cases h : a < b - 1 ∧ ro_plain w (b - 1) (k + 1) = true ∧ 0 ≤ ro_next w (b - 1) ∧ ro_next w (b - 1) ≤ k
  · rw [if_pos h, if_pos ⟨h.1, by simp; exact ⟨h.2.1, h.2.2.1, by omega⟩⟩]
  · rw [if_neg h, if_neg]
    rintro ⟨z1, z2⟩
    simp at z2
    exact h ⟨z1, z2.1, z2.2.1, by omega⟩
theorem c9 {k a b : Nat} (hq : pq w sg g T (k + 1)) (hb : b ≤ w.1) (hp : sp_perf sg k = true) : (rs (cF w sg g k 9 a) b).Perm (L9 w sg k (gU w sg T (k + 1)) a b) := by
  refine (c89 (t := (7, k, 2 * fl_ sg (k + 1))) hq hb hp (c := fun m => li_ w m k) rfl rfl rfl (fun m => rfl)).trans (List.Perm.of_eq ?_)
  unfold L9 li_
  by_cases h : a < b - 1 ∧ ro_plain w (b - 1) k = true ∧ ro_next w (b - 1) ≠ k
  · rw [if_pos h, if_pos ⟨h.1, by simp; exact ⟨h.2.1, h.2.2⟩⟩]
  · rw [if_neg h, if_neg]
    rintro ⟨z1, z2⟩
    simp at z2
    exact h ⟨z1, z2.1, z2.2⟩
theorem c10 {k a b : Nat} (hq : pq w sg g T (k + 1)) (hb : b ≤ w.1) (hp : sp_perf sg k = true) : (rs (cF w sg g k 10 a) b).Perm (L10 (gU w sg T (k + 1)) (gP w sg T (k + 1)) a b) := by
  rw [rs_cF (by rw [hd_pf 10 (by omega), hp]), show t0_ sg k 10 = [(1, k + 1, 0), (2, k + 1, 0)] from rfl, sq_two]
  unfold L10
  rw [← List.map_flatMap]
  exact (rs_seq (eS_U (k + 1) a) hb (X := gU w sg T (k + 1)) (Y := gP w sg T (k + 1)) (fun m => (hq a m).1) (fun m => (hq m b).2) (fun m => U0) (fun m => P0)).map _
theorem c11 {k a b : Nat} (hq : pq w sg g T (k + 1)) (hb : b ≤ w.1) (hp : sp_perf sg k = true) : (rs (cF w sg g k 11 a) b).Perm (L11 (gU w sg T (k + 1)) (gP w sg T (k + 1)) a b) := by
  rw [rs_cF (by rw [hd_pf 11 (by omega), hp]), show t0_ sg k 11 = [(2, k + 1, 0), (1, k + 1, 0)] from rfl, sq_two]
  unfold L11
  rw [← List.map_flatMap]
  exact (rs_seq (eS_P (k + 1) a) hb (X := gP w sg T (k + 1)) (Y := gU w sg T (k + 1)) (fun m => (hq a m).2) (fun m => (hq m b).1) (fun m => P0) (fun m => U0)).map _
theorem c13 {k a b : Nat} (hq : pq w sg g T (k + 1)) (hb : b ≤ w.1) (hp : sp_perf sg k = false) (hk : k < 6) : (rs (cF w sg g k 13 a) b).Perm (if ro_plain w a k = true ∧ ro_dot w (a + 1) = true then (gU w sg T (k + 1) (a + 2) b).map (gc ([13], [3 * fl_ sg (k + 1), 0])) else []) := by
  have e : hd_ w sg g k 13 a = ((!(sp_perf sg k) && decide (k < 6)) && (ro_plain w a k && ro_dot w (a + 1))) := rfl
  by_cases h : ro_plain w a k = true ∧ ro_dot w (a + 1) = true
  · rw [rs_cF (by rw [e, hp, h.1, h.2]; simp [hk]), if_pos h, show t0_ sg k 13 = [(1, k + 1, 0)] from rfl, sq_one]
    exact (hq (a + 2) b).1.map _
  · rw [rs_cF0 (by rw [e, hp]; simp [hk]; simpa using h), if_neg h]
theorem c14 {k a b : Nat} (hq : pq w sg g T (k + 1)) (hb : b ≤ w.1) (hp : sp_perf sg k = false) (hk : k < 6) : (rs (cF w sg g k 14 a) b).Perm (if a + 2 < b ∧ ro_plain w (b - 2) k = true ∧ ro_dot w (b - 1) = true then (gU w sg T (k + 1) a (b - 2)).map (fun x => gc (gc ([14], []) x) ([], [3 * fl_ sg (k + 1), 0])) else []) := by
  rw [rs_cF (by rw [hd_ip 14 (by omega), hp]; simp [hk]), show t0_ sg k 14 = [(1, k + 1, 0), (5, k, 3 * fl_ sg (k + 1))] from rfl, show iv_ sg k 14 = [] from rfl, sq_two]
  have h1 := rs_two (b := b) (lt_N (eS_U (sg := sg) (g := g) (k + 1) a)) (U := fun m => gU w sg T (k + 1) a m) (f := pK w sg g (5, k, 3 * fl_ sg (k + 1))) (V := fun m => if do_ w m k = true ∧ m + 2 = b then [([], [3 * fl_ sg (k + 1), 0])] else []) (fun m _ => (hq a m).1) (fun m _ => by
    show (rs (if do_ w m k = true then [(([], [3 * fl_ sg (k + 1), 0]), m + 2)] else []) b).Perm _
    by_cases hm : do_ w m k = true
    · rw [if_pos hm, rs_cons, rs_nil, List.append_nil]
      by_cases h2 : m + 2 = b
      · rw [if_pos h2, if_pos ⟨hm, h2⟩]
      · rw [if_neg h2, if_neg (fun z => h2 z.2)]
    · rw [if_neg hm, if_neg (fun z => hm z.1)]; exact List.Perm.refl _)
  refine (h1.map _).trans (List.Perm.of_eq ?_)
  by_cases h0 : a + 2 < b ∧ ro_plain w (b - 2) k = true ∧ ro_dot w (b - 1) = true
  · rw [rg_one (m0 := b - 2) (by omega) (fun m hm => by rw [if_neg (fun z => hm (by omega)), gx_nil_r]), if_pos h0, if_pos ⟨by unfold do_; rw [h0.2.1, show b - 2 + 1 = b - 1 from by omega, h0.2.2]; rfl, by omega⟩]
    unfold gx
    rw [List.map_flatMap]
    induction gU w sg T (k + 1) a (b - 2) with
    | nil => rfl
    | cons x l ih =>
      rw [List.flatMap_cons, ih]
      show [gc ([14], []) (gc x ([], [3 * fl_ sg (k + 1), 0]))] ++ _ = gc (gc ([14], []) x) ([], [3 * fl_ sg (k + 1), 0]) :: _
      rw [gc_assoc]
      rfl
  · rw [if_neg h0]
    have : (List.range (w.1 + 1)).flatMap (fun m => gx (gU w sg T (k + 1) a m) (if do_ w m k = true ∧ m + 2 = b then [([], [3 * fl_ sg (k + 1), 0])] else [])) = [] := by
      apply fm_z
      intro m _
      by_cases h2 : do_ w m k = true ∧ m + 2 = b
      · have e : b - 2 = m := by omega
        have h3 := h2.1
        unfold do_ at h3
        simp at h3
        rw [e, show b - 1 = m + 1 from by omega] at h0
        rw [U0 (fun z => h0 ⟨by omega, h3⟩), gx_nil_l]
      · rw [if_neg h2, gx_nil_r]
    rw [this]; rfl
/-! thirds -/
def T3 (w : ro_w) (sg k a b : Nat) : List gR := if ro_third w k a b = 0 then [] else [g3 sg k a b]
theorem rs_t3 {k a b v : Nat} : rs (pK w sg g (3, k, v) a) b = T3 w sg k a b := by
  show rs (pT1 w sg k 16 a ++ pT1 w sg k 17 a) b = _
  rw [rs_app]
  unfold pT1 T3 ro_third g3
  rw [show hd_ w sg 0 k 16 a = ro_dyed w a k from rfl, show hd_ w sg 0 k 17 a = (decide (k < 6) && (ro_dyed w a (k + 1) && ro_dyed w (a + 1) (k + 1))) from rfl, show iv_ sg k 16 = [2 * fl_ sg k / 3] from rfl, show iv_ sg k 17 = [fl_ sg k / 3, fl_ sg k / 3] from rfl]
  have no : ∀ c : Bool, rs (if c = true then [(([17], [fl_ sg k / 3, fl_ sg k / 3]), a + [fl_ sg k / 3, fl_ sg k / 3].length)] else []) b = if c = true ∧ b = a + 2 then [([17], [fl_ sg k / 3, fl_ sg k / 3])] else [] := by
    intro c
    cases c
    · rfl
    · rw [if_pos rfl, rs_cons, rs_nil, List.append_nil]
      by_cases h : b = a + 2
      · rw [if_pos (by rw [h]; rfl), if_pos ⟨rfl, h⟩]
      · rw [if_neg (fun z => h z.symm), if_neg (fun z => h z.2)]
  have no2 : ∀ c : Bool, rs (if c = true then [(([16], [2 * fl_ sg k / 3]), a + [2 * fl_ sg k / 3].length)] else []) b = if c = true ∧ b = a + 1 then [([16], [2 * fl_ sg k / 3])] else [] := by
    intro c
    cases c
    · rfl
    · rw [if_pos rfl, rs_cons, rs_nil, List.append_nil]
      by_cases h : b = a + 1
      · rw [if_pos (by rw [h]; rfl), if_pos ⟨rfl, h⟩]
      · rw [if_neg (fun z => h z.symm), if_neg (fun z => h z.2)]
  rw [no, no2]
  by_cases h1 : b = a + 1
  · rw [if_pos h1, if_pos h1, if_neg (c := _ ∧ b = a + 2) (fun z => by have := z.2; omega), List.append_nil]
    cases ro_dyed w a k
    · rfl
    · rw [if_pos ⟨rfl, h1⟩]; rfl
  · rw [if_neg h1, if_neg h1, if_neg (c := _ ∧ b = a + 1) (fun z => h1 z.2), List.nil_append]
    by_cases h2 : b = a + 2 ∧ k < 6
    · rw [if_pos h2]
      cases hd : (ro_dyed w a (k + 1) && ro_dyed w (a + 1) (k + 1))
      · rw [if_neg (by simp)]; rfl
      · rw [if_pos ⟨by simp [h2.2], h2.1⟩]; rfl
    · rw [if_neg h2, if_pos rfl, if_neg]
      rintro ⟨z1, z2⟩
      simp at z1
      exact h2 ⟨z2, z1.1⟩
theorem eS_t3 {k v p : Nat} : eS w (pK w sg g (3, k, v) p) p := by
  intro x hx
  rcases List.mem_append.mp (show x ∈ pT1 w sg k 16 p ++ pT1 w sg k 17 p from hx) with z | z
  · exact eS_t1 (Or.inl rfl) x z
  · exact eS_t1 (Or.inr rfl) x z
theorem T30 {k a b : Nat} (h : ¬ a < b) : T3 w sg k a b = [] := by
  unfold T3
  rw [if_pos]
  unfold ro_third
  rw [if_neg (by omega), if_neg (by omega)]
theorem c15 {k a b : Nat} (hb : b ≤ w.1) : (rs (cF w sg g k 15 a) b).Perm ((sp_thirds w k a b).flatMap (gQ sg (fun _ _ => []) k a b)) := by
  rw [rs_cF rfl, show t0_ sg k 15 = [(3, k, 0), (3, k, 0), (3, k, 0)] from rfl, sq_three]
  have h2 : ∀ m, (rs (gb (pK w sg g (3, k, 0) m) (pK w sg g (3, k, 0))) b).Perm ((sp_rg m b).flatMap (fun p => gx (T3 w sg k m p) (T3 w sg k p b))) := fun m => rs_seq eS_t3 hb (X := T3 w sg k) (Y := T3 w sg k) (fun p => List.Perm.of_eq rs_t3) (fun p => List.Perm.of_eq rs_t3) (fun m => T30) (fun m => T30)
  have h3 := rs_seq (eS_t3 (w := w) (sg := sg) (g := g) (k := k) (v := 0) (p := a)) hb (X := T3 w sg k) (Y := fun m b => (sp_rg m b).flatMap (fun p => gx (T3 w sg k m p) (T3 w sg k p b))) (fun m => List.Perm.of_eq rs_t3) h2 (fun m => T30) (fun m hm => by rw [sp_rg_0 (by omega)]; rfl)
  refine (h3.map _).trans ?_
  rw [List.map_flatMap]
  unfold sp_thirds
  rw [List.flatMap_assoc]
  apply fm_pw
  intro m _
  refine ((gx_fm _ _ _).map _).trans (List.Perm.of_eq ?_)
  rw [List.map_flatMap, List.flatMap_map]
  apply fm_congr
  intro p _
  show _ = if ro_third w k a m * ro_third w k m p * ro_third w k p b = 0 then ([] : List gR) else [gT sg k a b m p]
  unfold T3
  by_cases z1 : ro_third w k a m = 0
  · rw [if_pos z1, z1, Nat.zero_mul, Nat.zero_mul, if_pos rfl]; rfl
  · rw [if_neg z1]
    by_cases z2 : ro_third w k m p = 0
    · rw [if_pos z2, z2, Nat.mul_zero, Nat.zero_mul, if_pos rfl]; rfl
    · rw [if_neg z2]
      by_cases z3 : ro_third w k p b = 0
      · rw [if_pos z3, z3, Nat.mul_zero, if_pos rfl]; rfl
      · rw [if_neg z3, if_neg (fun z => (Nat.mul_eq_zero.mp z).elim (fun q => (Nat.mul_eq_zero.mp q).elim z1 z2) z3)]
        rfl
end LN3
