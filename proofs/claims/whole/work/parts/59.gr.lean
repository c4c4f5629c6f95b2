/-! the order of readings -/
theorem lx_irr : ∀ x : List Nat, lx_ x x = false
  | [] => rfl
  | a :: x => by show (if a = a then lx_ x x else _) = false; rw [if_pos rfl]; exact lx_irr x
theorem lx_cons (a : Nat) (x y : List Nat) : lx_ (a :: x) (a :: y) = lx_ x y := if_pos rfl
theorem lx_lt {a b : Nat} (h : a ≠ b) (x y : List Nat) : lx_ (a :: x) (b :: y) = decide (a < b) := if_neg h
theorem lx_anti : ∀ x y : List Nat, lx_ x y = false → lx_ y x = false → x = y
  | [], [], _, _ => rfl
  | [], _ :: _, h, _ => by cases h
  | _ :: _, [], _, h => by cases h
  | a :: x, b :: y, h1, h2 => by
    by_cases e : a = b
    · subst e
      rw [lx_cons] at h1 h2
      rw [lx_anti x y h1 h2]
    · rw [lx_lt e] at h1
      rw [lx_lt (fun z => e z.symm)] at h2
      simp at h1 h2
      omega
/-- x is not behind y -/
theorem lx_tr : ∀ x y z : List Nat, lx_ y x = false → lx_ z y = false → lx_ z x = false
  | x, y, [], h1, h2 => by
    cases x with
    | nil => rfl
    | cons a x =>
      cases y with
      | nil => cases h1
      | cons b y => cases h2
  | [], _, c :: z, _, _ => rfl
  | a :: x, [], c :: z, h1, _ => by cases h1
  | a :: x, b :: y, c :: z, h1, h2 => by
    by_cases e1 : b = a
    · subst e1
      by_cases e2 : c = b
      · subst e2
        rw [lx_cons] at h1 h2 ⊢
        exact lx_tr x y z h1 h2
      · rw [lx_lt e2] at h2 ⊢; exact h2
    · rw [lx_lt e1] at h1
      simp at h1
      by_cases e2 : c = b
      · subst e2
        rw [lx_lt e1]; simp; omega
      · rw [lx_lt e2] at h2
        simp at h2
        rw [lx_lt (by omega)]; simp; omega
theorem bf_irr (x : List Nat) : bf_ x x = false := by unfold bf_; rw [if_pos rfl]; exact lx_irr x
theorem bf_anti (x y : List Nat) (h1 : bf_ x y = false) (h2 : bf_ y x = false) : x = y := by
  unfold bf_ at h1 h2
  by_cases e : sn_ x = sn_ y
  · rw [if_pos e] at h1
    rw [if_pos e.symm] at h2
    exact lx_anti x y h1 h2
  · rw [if_neg e] at h1
    rw [if_neg (fun z => e z.symm)] at h2
    simp at h1 h2
    omega
theorem bf_tr (x y z : List Nat) (h1 : bf_ y x = false) (h2 : bf_ z y = false) : bf_ z x = false := by
  unfold bf_ at *
  by_cases e1 : sn_ y = sn_ x
  · rw [if_pos e1] at h1
    by_cases e2 : sn_ z = sn_ y
    · rw [if_pos e2] at h2
      rw [if_pos (by omega)]
      exact lx_tr x y z h1 h2
    · rw [if_neg e2] at h2
      rw [if_neg (by omega)]
      simp at h2 ⊢
      omega
  · rw [if_neg e1] at h1
    simp at h1
    by_cases e2 : sn_ z = sn_ y
    · rw [if_pos e2] at h2
      rw [if_neg (by omega)]
      simp
      omega
    · rw [if_neg e2] at h2
      simp at h2
      rw [if_neg (by omega)]
      simp
      omega
theorem bf_tot (x y : List Nat) (h : bf_ x y = true) : bf_ y x = false := by
  unfold bf_ at *
  by_cases e : sn_ x = sn_ y
  · rw [if_pos e] at h
    rw [if_pos e.symm]
    cases hq : lx_ y x
    · rfl
    · exfalso
      have key : ∀ x y : List Nat, lx_ x y = true → lx_ y x = true → False := by
        intro x
        induction x with
        | nil => intro y h1 h2; cases y <;> cases h1 <;> cases h2
        | cons a x ih =>
          intro y h1 h2
          cases y with
          | nil => cases h1
          | cons b y =>
            by_cases e : a = b
            · subst e
              rw [lx_cons] at h1 h2
              exact ih y h1 h2
            · rw [lx_lt e] at h1
              rw [lx_lt (fun z => e z.symm)] at h2
              simp at h1 h2
              omega
      exact key x y h hq
  · rw [if_neg e] at h
    rw [if_neg (fun z => e z.symm)]
    simp at h ⊢
    omega
/-- the insertion keeps the order (the list's head is the end) -/
def sr_ (R : Nat → List Nat) (x y : Nat) : Prop := bf_ (R x) (R y) = false
theorem ir_sorted (R : Nat → List Nat) (r : Nat) : ∀ l : List Nat, List.Pairwise (sr_ R) l → List.Pairwise (sr_ R) (ir_ R r l)
  | [], _ => List.pairwise_singleton _ _
  | x :: xs, h => by
    rw [List.pairwise_cons] at h
    unfold ir_
    by_cases hb : bf_ (R r) (R x) = true
    · rw [if_pos hb, List.pairwise_cons]
      refine ⟨fun y hy => ?_, ir_sorted R r xs h.2⟩
      rcases ir_mem R r xs y hy with e | e
      · rw [e]; exact bf_tot _ _ hb
      · exact h.1 y e
    · rw [if_neg hb, List.pairwise_cons]
      have hb : bf_ (R r) (R x) = false := by simpa using hb
      refine ⟨fun y hy => ?_, List.pairwise_cons.mpr h⟩
      rcases List.mem_cons.mp hy with e | e
      · rw [e]; exact hb
      · exact bf_tr _ _ _ (h.1 y e) hb
theorem so_sorted (R : Nat → List Nat) : ∀ r, List.Pairwise (sr_ R) (so_ R r)
  | 0 => List.Pairwise.nil
  | r + 1 => ir_sorted R r _ (so_sorted R r)
theorem ir_perm (R : Nat → List Nat) (r : Nat) : ∀ l : List Nat, (ir_ R r l).Perm (r :: l)
  | [] => List.Perm.refl _
  | x :: xs => by
    unfold ir_
    split
    · exact ((ir_perm R r xs).cons x).trans (List.Perm.swap r x xs)
    · exact List.Perm.refl _
theorem so_perm (R : Nat → List Nat) : ∀ r, (so_ R r).Perm (List.range r)
  | 0 => List.Perm.refl _
  | r + 1 => by
    rw [List.range_succ]
    exact (ir_perm R r _).trans (((so_perm R r).cons r).trans (by
      have := List.perm_append_comm (l₁ := [r]) (l₂ := List.range r)
      exact this))
/-- what is sorted as the reference sorts is what any such list is -/
theorem so_eq {L S : List gR} (hp : S.Perm L) (hs : List.Pairwise (fun x y : gR => bf_ y.1 x.1 = false) S) (hd : ∀ x ∈ L, ∀ y ∈ L, x.1 = y.1 → x = y) : (so_ (fun q => (L.getD q ([], [])).1) L.length).reverse.map (fun q => L.getD q ([], [])) = S := by
  apply List.Perm.eq_of_pairwise (le := fun x y : gR => bf_ y.1 x.1 = false)
  · intro a b ha hb h1 h2
    have ha' : a ∈ L := by
      rw [List.mem_map] at ha
      obtain ⟨q, hq, rfl⟩ := ha
      rw [List.mem_reverse] at hq
      have := so_lt _ _ _ hq
      rw [List.getD_eq_getElem?_getD, List.getElem?_eq_getElem this]
      exact List.getElem_mem this
    exact hd a ha' b (hp.mem_iff.mp hb) (bf_anti _ _ h2 h1)
  · rw [List.pairwise_map, List.pairwise_reverse]
    exact so_sorted (fun q => (L.getD q ([], [])).1) L.length
  · exact hs
  · refine List.Perm.trans ?_ hp.symm
    refine ((List.reverse_perm _).map _).trans ?_
    refine ((so_perm _ _).map _).trans (List.Perm.of_eq ?_)
    apply List.ext_getElem?
    intro i
    rw [List.getElem?_map]
    by_cases hi : i < L.length
    · rw [List.getElem?_range hi, List.getElem?_eq_getElem hi]
      show some (L.getD i ([], [])) = _
      rw [List.getD_eq_getElem?_getD, List.getElem?_eq_getElem hi]
      rfl
    · rw [List.getElem?_eq_none (by rw [List.length_range]; omega), List.getElem?_eq_none (by omega)]
      rfl
