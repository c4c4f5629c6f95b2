/-! readings in order -/
def lx_ : List Nat → List Nat → Bool
  | [], [] => false
  | [], _ :: _ => true
  | _ :: _, [] => false
  | a :: x, b :: y => if a = b then lx_ x y else decide (a < b)
def bf_ (x y : List Nat) : Bool := if sn_ x = sn_ y then lx_ x y else decide (sn_ x < sn_ y)
theorem lx_st : ∀ (i : Nat) (x y : List Nat), i ≤ x.length → i ≤ y.length → (∀ j : Nat, j < i → x.getD j 0 = y.getD j 0) → lx_ x y = lx_ (x.drop i) (y.drop i)
  | 0, _, _, _, _, _ => rfl
  | i + 1, [], _, h, _, _ => by rw [List.length_nil] at h; omega
  | i + 1, _ :: _, [], _, h, _ => by rw [List.length_nil] at h; omega
  | i + 1, a :: x, b :: y, h1, h2, h3 => by
    have e : a = b := h3 0 (by omega)
    rw [List.drop_succ_cons, List.drop_succ_cons, ← lx_st i x y (by rw [List.length_cons] at h1; omega) (by rw [List.length_cons] at h2; omega) (fun j hj => h3 (j + 1) (by omega))]
    show (if a = b then lx_ x y else decide (a < b)) = _
    rw [if_pos e]
theorem lx_getD {x : List Nat} {i : Nat} (h : i < x.length) : x.drop i = x.getD i 0 :: x.drop (i + 1) := by
  rw [List.drop_eq_getElem_cons h, List.getD_eq_getElem?_getD, List.getElem?_eq_getElem h]
  rfl
theorem lx_ne {i : Nat} {x y : List Nat} (h1 : i < x.length) (h2 : i < y.length) (h3 : ∀ j : Nat, j < i → x.getD j 0 = y.getD j 0) (h4 : ¬ x.getD i 0 = y.getD i 0) : lx_ x y = decide (x.getD i 0 < y.getD i 0) := by
  rw [lx_st i x y (by omega) (by omega) h3, lx_getD h1, lx_getD h2]
  exact if_neg h4
theorem lx_end {i : Nat} {x y : List Nat} (h : i = min x.length y.length) (h3 : ∀ j : Nat, j < i → x.getD j 0 = y.getD j 0) : lx_ x y = decide (x.length < y.length) := by
  rw [lx_st i x y (by omega) (by omega) h3]
  rcases Nat.lt_or_ge x.length y.length with z | z
  · have e : i = x.length := by omega
    rw [e, List.drop_length, lx_getD z, decide_eq_true z]
    rfl
  · have e : i = y.length := by omega
    rw [e, List.drop_length, decide_eq_false (by omega)]
    cases x.drop y.length <;> rfl
/-- a reading's forms as the arrays hold them -/
def fr_at (A : Nat → Nat → Int32) (p : Nat) (x : List Nat) : Prop := A 36 p = nI x.length ∧ A 37 p = nI (sn_ x) ∧ (∀ i : Nat, i < x.length → A 35 (120 * p + i) = nI (x.getD i 0) ∧ x.getD i 0 < 100) ∧ x.length ≤ 120
theorem wt_le (f : Nat) : wt_ f ≤ 3 := by unfold wt_; split <;> (try split) <;> (try split) <;> omega
theorem sn_le : ∀ x : List Nat, sn_ x ≤ 3 * x.length
  | [] => Nat.le_refl _
  | a :: x => by
    have h1 := sn_le x
    have h2 := wt_le a
    have h3 : sn_ (a :: x) = wt_ a + sn_ x := by unfold sn_; rw [List.map_cons, List.sum_cons]
    rw [h3, List.length_cons]
    omega
