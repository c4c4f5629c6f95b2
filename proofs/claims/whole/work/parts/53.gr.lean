/-! the readings as the class finds them: from a place on, forms in their order; results with the place behind -/
abbrev gM : Type := List (gR × Nat)
abbrev gK : Type := Nat × Nat × Nat
def gb (A : gM) (f : Nat → gM) : gM := A.flatMap (fun x => (f x.2).map (fun y => (gc x.1 y.1, y.2)))
def gk (A : gM) (f : Nat → List gR) : List gR := A.flatMap (fun x => (f x.2).map (gc x.1))
/-- may form f of kind k begin at place p; its values that are taken at once; what it is made of -/
def hd_ (w : ro_w) (sg g k f p : Nat) : Bool :=
  if f = 1 then ro_plain w p k
  else if f = 2 then ro_rest w p k
  else if f = 3 then sp_perf sg k && (ro_plain w p k && ro_dot w (p + 1))
  else if f = 4 ∨ f = 5 ∨ f = 14 then !(sp_perf sg k) && decide (k < 6)
  else if f = 6 ∨ f = 8 ∨ f = 9 ∨ f = 10 ∨ f = 11 then sp_perf sg k
  else if f = 7 then sp_perf sg k && ro_plain w p k
  else if f = 13 then (!(sp_perf sg k) && decide (k < 6)) && (ro_plain w p k && ro_dot w (p + 1))
  else if f = 15 then true
  else if f = 16 then ro_dyed w p k
  else if f = 17 then decide (k < 6) && (ro_dyed w p (k + 1) && ro_dyed w (p + 1) (k + 1))
  else if f = 18 then decide (k < g) && (ro_plain w p k && ro_dot w (p + 1))
  else false
def iv_ (sg k f : Nat) : List Nat :=
  if f = 1 ∨ f = 2 then [fl_ sg k]
  else if f = 3 then [fl_ sg k, 0]
  else if f = 7 then [2 * fl_ sg (k + 1)]
  else if f = 13 then [3 * fl_ sg (k + 1), 0]
  else if f = 16 then [2 * fl_ sg k / 3]
  else if f = 17 then [fl_ sg k / 3, fl_ sg k / 3]
  else if f = 18 then [fl_ sg k + fl_ sg k / 2, 0]
  else []
def dv_ (sg k : Nat) : List gK := if sp_perf sg k = true then [(6, k, 0)] else []
def t0_ (sg k f : Nat) : List gK :=
  if f = 4 then [(1, k + 1, 0), (1, k + 1, 0)]
  else if f = 5 then [(2, k + 1, 0)]
  else if f = 6 then [(1, k + 1, 0), (1, k + 1, 0), (1, k + 1, 0)]
  else if f = 7 then [(1, k + 1, 0)]
  else if f = 8 then [(1, k + 1, 0), (4, k + 1, 2 * fl_ sg (k + 1))]
  else if f = 9 then [(1, k + 1, 0), (7, k, 2 * fl_ sg (k + 1))]
  else if f = 10 then [(1, k + 1, 0), (2, k + 1, 0)]
  else if f = 11 then [(2, k + 1, 0), (1, k + 1, 0)]
  else if f = 13 then [(1, k + 1, 0)]
  else if f = 14 then [(1, k + 1, 0), (5, k, 3 * fl_ sg (k + 1))]
  else if f = 15 then [(3, k, 0), (3, k, 0), (3, k, 0)]
  else []
def ts_ (sg k f : Nat) : List gK := t0_ sg k f ++ (if f ≤ 2 ∨ 6 ≤ f ∧ f ≤ 11 then dv_ sg k else [])
def pDv (w : ro_w) (p : Nat) : gM := (([], []), p) :: (if ro_dot w p = true then [(([12], [0]), p + 1)] else [])
def pT1 (w : ro_w) (sg k f p : Nat) : gM := if hd_ w sg 0 k f p = true then [(([f], iv_ sg k f), p + (iv_ sg k f).length)] else []
def al_ (w : ro_w) (p k : Nat) : Bool := ro_plain w p k && (decide (0 ≤ ro_next w p) && decide (ro_next w p < k))
def li_ (w : ro_w) (p k : Nat) : Bool := ro_plain w p k && !(decide (ro_next w p = k))
def do_ (w : ro_w) (p k : Nat) : Bool := ro_plain w p k && ro_dot w (p + 1)
def pKx (w : ro_w) (sg : Nat) (pu pp : Nat → gM) (t : gK) (p : Nat) : gM :=
  if t.1 = 1 then pu p
  else if t.1 = 2 then pp p
  else if t.1 = 3 then pT1 w sg t.2.1 16 p ++ pT1 w sg t.2.1 17 p
  else if t.1 = 4 then (if al_ w p t.2.1 = true then [(([], [t.2.2]), p + 1)] else [])
  else if t.1 = 7 then (if li_ w p t.2.1 = true then [(([], [t.2.2]), p + 1)] else [])
  else if t.1 = 5 then (if do_ w p t.2.1 = true then [(([], [t.2.2, 0]), p + 2)] else [])
  else if t.1 = 6 then pDv w p
  else []
def sq_ (pk : gK → Nat → gM) : List gK → Nat → gM
  | [], p => [(([], []), p)]
  | t :: ts, p => gb (pk t p) (sq_ pk ts)
def pFx (w : ro_w) (sg g : Nat) (pk : gK → Nat → gM) (k f p : Nat) : gM := if hd_ w sg g k f p = true then (sq_ pk (ts_ sg k f) (p + (iv_ sg k f).length)).map (fun x => (gc ([f], iv_ sg k f) x.1, x.2)) else []
def lv_ (w : ro_w) (sg g : Nat) : Nat → (Nat → gM) × (Nat → gM)
  | 0 => (fun _ => [], fun _ => [])
  | n + 1 => (fun p => [1, 2, 3, 4, 5, 6, 7, 8, 9, 10, 11].flatMap (fun f => pFx w sg g (pKx w sg (lv_ w sg g n).1 (lv_ w sg g n).2) (6 - n) f p), fun p => [13, 14, 15].flatMap (fun f => pFx w sg g (pKx w sg (lv_ w sg g n).1 (lv_ w sg g n).2) (6 - n) f p))
def pU (w : ro_w) (sg g k : Nat) : Nat → gM := (lv_ w sg g (7 - k)).1
def pP (w : ro_w) (sg g k : Nat) : Nat → gM := (lv_ w sg g (7 - k)).2
def pK (w : ro_w) (sg g : Nat) (t : gK) (p : Nat) : gM := pKx w sg (pU w sg g t.2.1) (pP w sg g t.2.1) t p
def pF (w : ro_w) (sg g k f p : Nat) : gM := pFx w sg g (pK w sg g) k f p
section PAR
variable {w : ro_w} {sg g : Nat}
theorem gb_assoc (A : gM) (f h : Nat → gM) : gb (gb A f) h = gb A (fun m => gb (f m) h) := by
  unfold gb
  rw [List.flatMap_assoc]
  apply fm_congr
  intro x _
  rw [List.flatMap_map, List.map_flatMap]
  apply fm_congr
  intro y _
  rw [List.map_map]
  apply List.map_congr_left
  intro z _
  simp only [Function.comp, gc_assoc]
theorem gk_gb (A : gM) (f : Nat → gM) (h : Nat → List gR) : gk (gb A f) h = gk A (fun m => gk (f m) h) := by
  unfold gb gk
  rw [List.flatMap_assoc]
  apply fm_congr
  intro x _
  rw [List.flatMap_map, List.map_flatMap]
  apply fm_congr
  intro y _
  rw [List.map_map]
  apply List.map_congr_left
  intro z _
  simp only [Function.comp, gc_assoc]
theorem gk_app (A B : gM) (h : Nat → List gR) : gk (A ++ B) h = gk A h ++ gk B h := List.flatMap_append
theorem gb_app (A B : gM) (h : Nat → gM) : gb (A ++ B) h = gb A h ++ gb B h := List.flatMap_append
theorem gk_map (A : gM) (y : gR) (h : Nat → List gR) : gk (A.map (fun x => (gc y x.1, x.2))) h = (gk A h).map (gc y) := by
  unfold gk
  rw [List.flatMap_map, List.map_flatMap]
  apply fm_congr
  intro x _
  rw [List.map_map]
  apply List.map_congr_left
  intro z _
  simp only [Function.comp, gc_assoc]
theorem gk_one (x : gR) (p : Nat) (h : Nat → List gR) : gk [(x, p)] h = (h p).map (gc x) := by unfold gk; simp
theorem gk_nil (p : Nat) (h : Nat → List gR) : gk [(([], []), p)] h = h p := by
  rw [gk_one]
  conv => rhs; rw [← List.map_id (h p)]
  apply List.map_congr_left
  intro z _
  exact nil_gc z
theorem sq_app (pk : gK → Nat → gM) : ∀ (ts us : List gK) (p : Nat), sq_ pk (ts ++ us) p = gb (sq_ pk ts p) (sq_ pk us)
  | [], us, p => by
    show sq_ pk us p = ((sq_ pk us p).map (fun y => (gc ([], []) y.1, y.2))) ++ []
    rw [List.append_nil]
    conv => lhs; rw [← List.map_id (sq_ pk us p)]
    apply List.map_congr_left
    intro z _
    rw [nil_gc]; rfl
  | t :: ts, us, p => by
    show gb (pk t p) (sq_ pk (ts ++ us)) = gb (gb (pk t p) (sq_ pk ts)) (sq_ pk us)
    rw [gb_assoc, show sq_ pk (ts ++ us) = fun m => gb (sq_ pk ts m) (sq_ pk us) from funext (fun m => sq_app pk ts us m)]
/-- the tasks of a form are of the next kind, or need none -/
theorem ts_kinds {k f : Nat} : ∀ t ∈ ts_ sg k f, (t.1 = 1 ∨ t.1 = 2) → t.2.1 = k + 1 := by
  intro t ht hs
  unfold ts_ at ht
  rcases List.mem_append.mp ht with ht | ht
  rotate_left
  · have h6 : t.1 = 6 := by
      by_cases hf : f ≤ 2 ∨ 6 ≤ f ∧ f ≤ 11
      · rw [if_pos hf] at ht
        unfold dv_ at ht
        split at ht
        · rw [List.mem_singleton] at ht; rw [ht]
        · cases ht
      · rw [if_neg hf] at ht; cases ht
    omega
  unfold t0_ at ht
  by_cases c0 : f = 4
  · rw [if_pos c0] at ht
    simp only [List.mem_cons, List.not_mem_nil, or_false] at ht
    rcases ht with h | h <;> (subst h; first | rfl | (simp at hs))
  rw [if_neg c0] at ht
  by_cases c1 : f = 5
  · rw [if_pos c1] at ht
    simp only [List.mem_cons, List.not_mem_nil, or_false] at ht
    subst ht; rfl
  rw [if_neg c1] at ht
  by_cases c2 : f = 6
  · rw [if_pos c2] at ht
    simp only [List.mem_cons, List.not_mem_nil, or_false] at ht
    rcases ht with h | h | h <;> (subst h; first | rfl | (simp at hs))
  rw [if_neg c2] at ht
  by_cases c3 : f = 7
  · rw [if_pos c3] at ht
    simp only [List.mem_cons, List.not_mem_nil, or_false] at ht
    subst ht; rfl
  rw [if_neg c3] at ht
  by_cases c4 : f = 8
  · rw [if_pos c4] at ht
    simp only [List.mem_cons, List.not_mem_nil, or_false] at ht
    rcases ht with h | h <;> (subst h; first | rfl | (simp at hs))
  rw [if_neg c4] at ht
  by_cases c5 : f = 9
  · rw [if_pos c5] at ht
    simp only [List.mem_cons, List.not_mem_nil, or_false] at ht
    rcases ht with h | h <;> (subst h; first | rfl | (simp at hs))
  rw [if_neg c5] at ht
  by_cases c6 : f = 10
  · rw [if_pos c6] at ht
    simp only [List.mem_cons, List.not_mem_nil, or_false] at ht
    rcases ht with h | h <;> (subst h; first | rfl | (simp at hs))
  rw [if_neg c6] at ht
  by_cases c7 : f = 11
  · rw [if_pos c7] at ht
    simp only [List.mem_cons, List.not_mem_nil, or_false] at ht
    rcases ht with h | h <;> (subst h; first | rfl | (simp at hs))
  rw [if_neg c7] at ht
  by_cases c8 : f = 13
  · rw [if_pos c8] at ht
    simp only [List.mem_cons, List.not_mem_nil, or_false] at ht
    subst ht; rfl
  rw [if_neg c8] at ht
  by_cases c9 : f = 14
  · rw [if_pos c9] at ht
    simp only [List.mem_cons, List.not_mem_nil, or_false] at ht
    rcases ht with h | h <;> (subst h; first | rfl | (simp at hs))
  rw [if_neg c9] at ht
  by_cases c10 : f = 15
  · rw [if_pos c10] at ht
    simp only [List.mem_cons, List.not_mem_nil, or_false] at ht
    rcases ht with h | h | h <;> (subst h; first | rfl | (simp at hs))
  rw [if_neg c10] at ht
  cases ht
theorem sq_congr {pk pk' : gK → Nat → gM} : ∀ (ts : List gK), (∀ t ∈ ts, ∀ p, pk t p = pk' t p) → sq_ pk ts = sq_ pk' ts
  | [], _ => rfl
  | t :: ts, h => by
    funext p
    show gb (pk t p) (sq_ pk ts) = gb (pk' t p) (sq_ pk' ts)
    rw [h t List.mem_cons_self p, sq_congr ts (fun x hx => h x (List.mem_cons_of_mem _ hx))]
theorem pFx_eq {k f p : Nat} : pFx w sg g (pKx w sg (pU w sg g (k + 1)) (pP w sg g (k + 1))) k f p = pF w sg g k f p := by
  unfold pF pFx
  rw [sq_congr (pk := pKx w sg (pU w sg g (k + 1)) (pP w sg g (k + 1))) (pk' := pK w sg g) (ts_ sg k f) ?_]
  intro t ht p
  have h := ts_kinds t ht
  unfold pK pKx
  by_cases h1 : t.1 = 1
  · rw [if_pos h1, if_pos h1, h (Or.inl h1)]
  · rw [if_neg h1, if_neg h1]
    by_cases h2 : t.1 = 2
    · rw [if_pos h2, if_pos h2, h (Or.inr h2)]
    · rw [if_neg h2, if_neg h2]
theorem pU_eq {k p : Nat} (hk : k ≤ 6) : pU w sg g k p = [1, 2, 3, 4, 5, 6, 7, 8, 9, 10, 11].flatMap (fun f => pF w sg g k f p) := by
  conv => lhs; unfold pU
  rw [show 7 - k = (6 - k) + 1 from by omega]
  show [1, 2, 3, 4, 5, 6, 7, 8, 9, 10, 11].flatMap (fun f => pFx w sg g (pKx w sg (lv_ w sg g (6 - k)).1 (lv_ w sg g (6 - k)).2) (6 - (6 - k)) f p) = _
  rw [show 6 - (6 - k) = k from by omega, show 6 - k = 7 - (k + 1) from by omega]
  apply fm_congr
  intro f _
  exact pFx_eq
theorem pP_eq {k p : Nat} (hk : k ≤ 6) : pP w sg g k p = [13, 14, 15].flatMap (fun f => pF w sg g k f p) := by
  conv => lhs; unfold pP
  rw [show 7 - k = (6 - k) + 1 from by omega]
  show [13, 14, 15].flatMap (fun f => pFx w sg g (pKx w sg (lv_ w sg g (6 - k)).1 (lv_ w sg g (6 - k)).2) (6 - (6 - k)) f p) = _
  rw [show 6 - (6 - k) = k from by omega, show 6 - k = 7 - (k + 1) from by omega]
  apply fm_congr
  intro f _
  exact pFx_eq
theorem pU_7 {k p : Nat} (hk : 7 ≤ k) : pU w sg g k p = [] := by unfold pU; rw [show 7 - k = 0 from by omega]; rfl
theorem pP_7 {k p : Nat} (hk : 7 ≤ k) : pP w sg g k p = [] := by unfold pP; rw [show 7 - k = 0 from by omega]; rfl
/-! results that end at b -/
def rs (A : gM) (b : Nat) : List gR := (A.filter (fun x => x.2 == b)).map (fun x => x.1)
theorem rs_app (A B : gM) (b : Nat) : rs (A ++ B) b = rs A b ++ rs B b := by unfold rs; rw [List.filter_append, List.map_append]
theorem rs_cons (x : gR × Nat) (A : gM) (b : Nat) : rs (x :: A) b = (if x.2 = b then [x.1] else []) ++ rs A b := by
  unfold rs
  by_cases h : x.2 = b
  · rw [List.filter_cons_of_pos (by simp [h]), if_pos h]; rfl
  · rw [List.filter_cons_of_neg (by simp [h]), if_neg h]; rfl
theorem rs_nil (b : Nat) : rs [] b = [] := rfl
theorem rs_map (A : gM) (F : gR → gR) (b : Nat) : rs (A.map (fun x => (F x.1, x.2))) b = (rs A b).map F := by
  induction A with
  | nil => rfl
  | cons x A ih =>
    rw [List.map_cons, rs_cons, rs_cons, List.map_append, ih]
    congr 1
    by_cases h : x.2 = b
    · rw [if_pos h, if_pos h]; rfl
    · rw [if_neg h, if_neg h]; rfl
theorem rs_gb (A : gM) (f : Nat → gM) (b : Nat) : rs (gb A f) b = A.flatMap (fun x => (rs (f x.2) b).map (gc x.1)) := by
  induction A with
  | nil => rfl
  | cons x A ih =>
    have e : gb (x :: A) f = (f x.2).map (fun y => (gc x.1 y.1, y.2)) ++ gb A f := rfl
    rw [e, rs_app, ih, rs_map, List.flatMap_cons]
theorem rs_fm {α : Type} (l : List α) (f : α → gM) (b : Nat) : rs (l.flatMap f) b = l.flatMap (fun x => rs (f x) b) := by
  induction l with
  | nil => rfl
  | cons x l ih => rw [List.flatMap_cons, rs_app, ih, List.flatMap_cons]
theorem rs_mem {A : gM} {b : Nat} {x : gR} : x ∈ rs A b ↔ (x, b) ∈ A := by
  unfold rs
  rw [List.mem_map]
  constructor
  · rintro ⟨⟨y, m⟩, h1, h2⟩
    rw [List.mem_filter] at h1
    have h3 : m = b := by simpa using h1.2
    cases h2
    cases h3
    exact h1.1
  · intro h
    exact ⟨(x, b), List.mem_filter.mpr ⟨h, by simp⟩, rfl⟩
theorem fm_app {α β : Type} (f h : α → List β) : ∀ l : List α, (l.flatMap (fun x => f x ++ h x)).Perm (l.flatMap f ++ l.flatMap h)
  | [] => List.Perm.refl _
  | x :: l => by
    rw [List.flatMap_cons, List.flatMap_cons, List.flatMap_cons]
    have ih := fm_app f h l
    have e1 : (f x ++ h x ++ l.flatMap (fun x => f x ++ h x)).Perm (f x ++ h x ++ (l.flatMap f ++ l.flatMap h)) := List.Perm.append_left _ ih
    refine e1.trans ?_
    rw [List.append_assoc, List.append_assoc]
    apply List.Perm.append_left
    rw [← List.append_assoc, ← List.append_assoc]
    apply List.Perm.append_right
    exact List.perm_append_comm
theorem fm_nil {α β : Type} : ∀ l : List α, l.flatMap (fun _ => ([] : List β)) = []
  | [] => rfl
  | _ :: l => by rw [List.flatMap_cons, fm_nil l]; rfl
theorem fm_swap {α β γ : Type} (l : List α) (G : α → β → List γ) : ∀ m : List β, (l.flatMap (fun x => m.flatMap (fun y => G x y))).Perm (m.flatMap (fun y => l.flatMap (fun x => G x y)))
  | [] => by
    show (l.flatMap (fun _ => [])).Perm []
    rw [fm_nil]
  | y :: m => by
    rw [List.flatMap_cons]
    have e : l.flatMap (fun x => (y :: m).flatMap (fun y => G x y)) = l.flatMap (fun x => G x y ++ m.flatMap (fun y => G x y)) := fm_congr (fun x _ => List.flatMap_cons)
    rw [e]
    exact (fm_app _ _ l).trans (List.Perm.append_left _ (fm_swap l G m))
theorem fm_pw {α β : Type} {f h : α → List β} : ∀ {l : List α}, (∀ x ∈ l, (f x).Perm (h x)) → (l.flatMap f).Perm (l.flatMap h)
  | [], _ => List.Perm.refl _
  | x :: l, e => by
    rw [List.flatMap_cons, List.flatMap_cons]
    exact (e x List.mem_cons_self).append (fm_pw (fun y hy => e y (List.mem_cons_of_mem _ hy)))
/-- grouped by ends -/
theorem fm_grp {β : Type} (F : gR × Nat → List β) (N : Nat) : ∀ A : gM, (∀ x ∈ A, x.2 < N) → (A.flatMap F).Perm ((List.range N).flatMap (fun m => (rs A m).flatMap (fun x => F (x, m))))
  | [], _ => by
    have : (List.range N).flatMap (fun m => (rs [] m).flatMap (fun x => F (x, m))) = [] := fm_nil _
    rw [this]
    exact List.Perm.refl _
  | x :: A, h => by
    have ih := fm_grp F N A (fun y hy => h y (List.mem_cons_of_mem _ hy))
    rw [List.flatMap_cons]
    have e : (List.range N).flatMap (fun m => (rs (x :: A) m).flatMap (fun x => F (x, m))) = (List.range N).flatMap (fun m => (if x.2 = m then F x else []) ++ (rs A m).flatMap (fun x => F (x, m))) := by
      apply fm_congr
      intro m _
      rw [rs_cons, List.flatMap_append]
      congr 1
      by_cases hm : x.2 = m
      · rw [if_pos hm, if_pos hm, ← hm]; simp
      · rw [if_neg hm, if_neg hm]; rfl
    rw [e]
    refine List.Perm.trans ?_ (fm_app _ _ _).symm
    have h1 : (List.range N).flatMap (fun m => if x.2 = m then F x else []) = F x := by
      have key : ∀ n, (List.range n).flatMap (fun m => if x.2 = m then F x else []) = if x.2 < n then F x else [] := by
        intro n
        induction n with
        | zero => rfl
        | succ n ihn =>
          rw [List.range_succ, List.flatMap_append, ihn]
          simp only [List.flatMap_cons, List.flatMap_nil, List.append_nil]
          by_cases z : x.2 = n
          · rw [if_neg (by omega), if_pos z, if_pos (by omega)]; rfl
          · rw [if_neg z, List.append_nil]
            by_cases z2 : x.2 < n
            · rw [if_pos z2, if_pos (by omega)]
            · rw [if_neg z2, if_neg (by omega)]
      rw [key, if_pos (h x List.mem_cons_self)]
    rw [h1]
    exact List.Perm.append_left _ ih
theorem gx_perm {A A' B B' : List gR} (h1 : A.Perm A') (h2 : B.Perm B') : (gx A B).Perm (gx A' B') := by
  unfold gx
  exact (List.Perm.flatMap_right _ h1).trans (fm_pw (fun x _ => h2.map _))
theorem gx_nil_l (B : List gR) : gx [] B = [] := rfl
theorem gx_nil_r (A : List gR) : gx A [] = [] := by unfold gx; exact fm_nil A
/-- two parts, one behind the other -/
theorem rs_two {A : gM} {f : Nat → gM} {U V : Nat → List gR} {N b : Nat} (hA : ∀ x ∈ A, x.2 < N) (hU : ∀ m, m < N → (rs A m).Perm (U m)) (hV : ∀ m, m < N → (rs (f m) b).Perm (V m)) : (rs (gb A f) b).Perm ((List.range N).flatMap (fun m => gx (U m) (V m))) := by
  rw [rs_gb]
  refine (fm_grp (fun x => (rs (f x.2) b).map (gc x.1)) N A hA).trans ?_
  apply fm_pw
  intro m hm
  rw [List.mem_range] at hm
  exact gx_perm (hU m hm) (hV m hm)
end PAR
