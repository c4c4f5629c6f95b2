/-! what a reading tells in the end; the readings sorted -/
/-- only forms below 20 are told -/
def fo_ (P P' : tk_P) : Prop := ∃ fs : List Nat, P'.2.1 = P.2.1 ++ fs ∧ ∀ f ∈ fs, f < 20
theorem fo_0 {P P' : tk_P} (h : P'.2.1 = P.2.1) : fo_ P P' := ⟨[], by rw [h, List.append_nil], fun f h => by cases h⟩
theorem fo_1 {P P' : tk_P} {f : Nat} (h : P'.2.1 = P.2.1 ++ [f]) (hf : f < 20) : fo_ P P' := ⟨[f], h, fun x hx => by rw [List.mem_singleton] at hx; rw [hx]; exact hf⟩
section FOS
variable {w : ro_w} {sg g : Nat} {T I : Nat → Nat}
theorem fo_g {k a b r : Nat} {P : tk_P} : fo_ P (op_g w sg k a b r P) := by
  unfold op_g
  by_cases h1 : b = a + 1
  · rw [if_pos h1]
    by_cases h2 : ro_rest w a k = true
    · rw [if_pos h2]; exact fo_1 rfl (by decide)
    · rw [if_neg h2]; exact fo_1 rfl (by decide)
  · rw [if_neg h1]
    by_cases h2 : b = a + 2 ∧ ro_plain w a k = true
    · rw [if_pos h2]; exact fo_1 rfl (by decide)
    · rw [if_neg h2]
      cases pk_ (sp_thirds w k a b) r with
      | none => exact fo_0 rfl
      | some x => exact fo_1 rfl (by decide)
theorem fo_i {a b r : Nat} {P : tk_P} : fo_ P (op_i w sg g T a b r P) := by
  unfold op_i
  by_cases h1 : r < tb_w T 0 g a b
  · rw [if_pos h1]; exact fo_0 rfl
  · rw [if_neg h1]
    by_cases h2 : r - tb_w T 0 g a b < tb_w T 1 g a b
    · rw [if_pos h2]; exact fo_0 rfl
    · rw [if_neg h2]; exact fo_g
theorem fo_is {a r : Nat} {P : tk_P} : fo_ P (op_is w sg g T I a r P) := by
  unfold op_is
  by_cases h1 : a = w.1
  · rw [if_pos h1]; exact fo_0 rfl
  · rw [if_neg h1]
    exact fo_i (P := op_p _ P)
theorem fo_v {k a to f c c2 q : Nat} {P : tk_P} : (op_v sg T k a to f c c2 q P).2.1 = P.2.1 := by
  unfold op_v
  repeat' split
  all_goals rfl
theorem fo_u {k a b : Nat} {e : sc_O} {q : Nat} {P : tk_P} (he : e.1 < 20) : fo_ P (op_u sg T k a b e q P) := by
  unfold op_u
  cases hd : e.2.2.2.1
  · exact fo_1 (f := e.1) (by rw [fo_v]; rfl) he
  · exact fo_1 (f := e.1) (by rw [fo_v]; rfl) he
theorem fo_p {k a b : Nat} {e : sc_O} {q : Nat} {P : tk_P} : fo_ P (op_pr sg k a b e q P) := by
  unfold op_pr
  by_cases h1 : e.1 = 15
  · rw [if_pos h1]; exact fo_1 rfl (by decide)
  · rw [if_neg h1]
    by_cases h2 : e.1 = 13
    · rw [if_pos h2]; exact fo_1 rfl (by decide)
    · rw [if_neg h2]; exact fo_1 rfl (by decide)
theorem fo_s {t : tk_T} {P : tk_P} (hv : tv_ w sg g T I t) : fo_ P (tk_s w sg g T I t P) := by
  obtain ⟨t1, k, a, b, r⟩ := t
  rcases hv with ⟨v1, v2, v3, v4⟩ | ⟨v1, v2, v3, v4, v5, v6⟩ | ⟨v1, v2, v3, v4, v5, v6⟩ | ⟨v1, v2, v3, v4⟩ | ⟨v1, v2⟩
  · have e : t1 = 3 := v1
    subst e
    exact fo_is
  · have e : t1 = 0 := v1
    subst e
    obtain ⟨e, q, hp⟩ := pk_some _ _ v6
    have hp : pk_ (sp_unit w sg T k a b) r = some (e, q) := hp
    show fo_ P (match pk_ (sp_unit w sg T k a b) r with | some x => op_u sg T k a b x.1 x.2 P | none => P)
    rw [hp]
    obtain ⟨h1, h2, -⟩ := pk_mem _ _ _ _ hp
    have h3 := un_iq h1 h2
    exact fo_u (show e.1 < 20 by unfold un_q at h3; omega)
  · have e : t1 = 1 := v1
    subst e
    obtain ⟨e, q, hp⟩ := pk_some _ _ v6
    have hp : pk_ (sp_pair w sg T k a b) r = some (e, q) := hp
    show fo_ P (match pk_ (sp_pair w sg T k a b) r with | some x => op_pr sg k a b x.1 x.2 P | none => P)
    rw [hp]
    exact fo_p
  · have e : t1 = 2 := v1
    subst e
    show fo_ P (op_d sg k a b P)
    unfold op_d
    by_cases h : b = a + 1
    · rw [if_pos h]; exact fo_1 rfl (by decide)
    · rw [if_neg h]; exact fo_1 rfl (by decide)
  · have e : t1 = 4 := v1
    have e2 : k = 12 := v2
    subst e; subst e2
    exact fo_1 (f := 12) rfl (by decide)
theorem tk_rok (hc : tc_ w sg g T I) : ∀ (n : Nat) (P : tk_P), tws_ w.1 P.1 ≤ n → (∀ t ∈ P.1, tv_ w sg g T I t) → P.2.1.length + tws_ w.1 P.1 ≤ 100 → (∀ f ∈ P.2.1, f < 20) → (tk_r w sg g T I n P).1 = [] ∧ (tk_r w sg g T I n P).2.1.length ≤ 100 ∧ ∀ f ∈ (tk_r w sg g T I n P).2.1, f < 20
  | 0, P, h1, h2, h3, h4 => by
    have h5 := tws_len hc P.1 h2
    exact ⟨List.eq_nil_of_length_eq_zero (show P.1.length = 0 by omega), by show P.2.1.length ≤ 100; omega, h4⟩
  | n + 1, (stk, x), h1, h2, h3, h4 => by
    cases stk with
    | nil => exact ⟨rfl, by show x.1.length ≤ 100; have h3 : x.1.length + _ ≤ 100 := h3; omega, h4⟩
    | cons t rest =>
      have hv := h2 t List.mem_cons_self
      obtain ⟨ns, n1, n2, n3, n4⟩ := tk_ok hc (P := (rest, x)) hv
      obtain ⟨fs, f1, f2⟩ := fo_s (P := (rest, x)) hv
      have h1 : tws_ w.1 (t :: rest) ≤ n + 1 := h1
      have h3 : x.1.length + tws_ w.1 (t :: rest) ≤ 100 := h3
      rw [tws_cons] at h1 h3
      have n3 : (tk_s w sg g T I t (rest, x)).2.1.length + tws_ w.1 ns ≤ x.1.length + tw_ w.1 t := n3
      have k1 : tws_ w.1 (tk_s w sg g T I t (rest, x)).1 = tws_ w.1 ns + tws_ w.1 rest := by rw [n1, tws_app]
      exact tk_rok hc n (tk_s w sg g T I t (rest, x)) (by omega) (by
        rw [n1]
        intro y hy
        rcases List.mem_append.mp hy with z | z
        · exact n2 y z
        · exact h2 y (List.mem_cons_of_mem _ z)) (by omega) (by
        rw [f1]
        intro f hf
        rcases List.mem_append.mp hf with z | z
        · exact h4 f z
        · exact f2 f z)
end FOS
/-- reading q: its forms, its values -/
def rf_ (w : ro_w) (sg g : Nat) (T I : Nat → Nat) (q : Nat) : List Nat × (Nat → Nat) := (tk_r w sg g T I 100 ([(3, 0, 0, 0, q)], [], fun _ => 0)).2
theorem rf_ok {w : ro_w} {sg g : Nat} {T I : Nat → Nat} (hc : tc_ w sg g T I) {q : Nat} (hq : q < I 0) : q < 3000 ∧ (0 < w.1 → q < iw_s w g T I 0 (w.1 - 0) (0 + 1)) ∧ (rf_ w sg g T I q).1.length ≤ 100 ∧ ∀ f ∈ (rf_ w sg g T I q).1, f < 20 := by
  have h1 := hc.2.2.2.2.2 0 (by decide)
  have h2 : 0 < w.1 → q < iw_s w g T I 0 (w.1 - 0) (0 + 1) := by
    intro hw
    have h3 := hc.2.2.1.2 0 (Nat.le_refl _) hw
    unfold iw_d at h3
    rw [h3] at hq
    have h4 : iw_s w g T I 0 (w.1 - 0) (0 + 1) = iw_s w g T I 0 (w.1 - 0) (0 + 1) := rfl
    omega
  have h5 := hc.2.2.2.1
  have h6 := tk_rok hc 100 ([(3, 0, 0, 0, q)], [], fun _ => 0) (by show tws_ w.1 [(3, 0, 0, 0, q)] ≤ 100; rw [tws_cons, tws_nil, tw_3]; omega) (fa1 (Or.inl ⟨rfl, Nat.zero_le _, by show q < 3000; omega, h2⟩) fa0) (by show 0 + tws_ w.1 [(3, 0, 0, 0, q)] ≤ 100; rw [tws_cons, tws_nil, tw_3]; omega) (fun f hf => by cases hf)
  exact ⟨by omega, h2, h6.2.1, h6.2.2⟩
/-- insertion from the end on (the list's head is the end) -/
def ir_ (R : Nat → List Nat) (r : Nat) : List Nat → List Nat
  | [] => [r]
  | x :: xs => if bf_ (R r) (R x) = true then x :: ir_ R r xs else r :: x :: xs
def so_ (R : Nat → List Nat) : Nat → List Nat
  | 0 => []
  | r + 1 => ir_ R r (so_ R r)
theorem ir_len (R : Nat → List Nat) (r : Nat) : ∀ l : List Nat, (ir_ R r l).length = l.length + 1
  | [] => rfl
  | x :: xs => by
    unfold ir_
    split
    · rw [List.length_cons, ir_len R r xs, List.length_cons]
    · rfl
theorem ir_mem (R : Nat → List Nat) (r : Nat) : ∀ (l : List Nat) (y : Nat), y ∈ ir_ R r l → y = r ∨ y ∈ l
  | [], y, h => by rw [show ir_ R r [] = [r] from rfl, List.mem_singleton] at h; exact Or.inl h
  | x :: xs, y, h => by
    unfold ir_ at h
    split at h
    · rcases List.mem_cons.mp h with z | z
      · rw [z]; exact Or.inr List.mem_cons_self
      · rcases ir_mem R r xs y z with q | q
        · exact Or.inl q
        · exact Or.inr (List.mem_cons_of_mem _ q)
    · rcases List.mem_cons.mp h with z | z
      · exact Or.inl z
      · exact Or.inr z
theorem so_len (R : Nat → List Nat) : ∀ r, (so_ R r).length = r
  | 0 => rfl
  | r + 1 => by unfold so_; rw [ir_len, so_len R r]
theorem so_lt (R : Nat → List Nat) : ∀ (r y : Nat), y ∈ so_ R r → y < r
  | 0, y, h => by cases h
  | r + 1, y, h => by
    unfold so_ at h
    rcases ir_mem R r _ y h with z | z
    · omega
    · have := so_lt R r y z; omega
/-- the array 'sorted' holds the list, its end first -/
def sa_ (A : Nat → Nat → Int32) (l : List Nat) (n : Nat) : Prop := ∀ (i v : Nat), l[i]? = some v → A 39 (n - 1 - i) = nI v
